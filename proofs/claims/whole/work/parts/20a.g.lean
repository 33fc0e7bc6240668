/-! each instruction, one step (written by program) -/
section RZG
variable {Z : rx_Z} {d : Nat} {S : List Value} {L : rx_L} {σ : rx_S} {h : Nat → Option rx_E} {ι : Nat → Nat → Int32} {w : Nat × Nat} {a b t0 t1 t2 t3 t4 t5 t6 t7 t8 : Nat} {x y z s0 s1 s2 s3 s4 s5 s6 s7 s8 s9 s10 : Int32} {p q q0 q1 q2 q3 : Int64} {v v1 v2 v3 v4 v5 v6 v7 v8 v9 v10 : Value} {l0 l1 l2 l3 l4 l5 l6 l7 l8 l9 l10 l11 l12 l13 l14 : Option Value}
theorem g0_0 : rg Z d rx_m0 0 [some (.ref a)] S (rz_mk h ι, w) = rg Z d rx_m0 1 [some (.ref a)] (.ref a :: S) (rz_mk h ι, w) := rz_s1 fun _ => rfl
theorem g0_1 : rg Z d rx_m0 1 L (.ref a :: []) (rz_mk h ι, w) = rg Z d rx_m0 4 L [] (rz_mk h ι, w) := rz_oi rfl (Nat.le_of_ble_eq_true rfl)
theorem g0_4 : rg Z d rx_m0 4 [some (.ref a)] S (rz_mk h ι, w) = rg Z d rx_m0 5 [some (.ref a)] (.ref a :: S) (rz_mk h ι, w) := rz_s1 fun _ => rfl
theorem g0_5 : rg Z d rx_m0 5 L S (rz_mk h ι, w) = rg Z d rx_m0 7 L (.int 8 :: S) (rz_mk h ι, w) := rz_s1 fun _ => rfl
theorem g0_7 : rg Z d rx_m0 7 L (.int 8 :: S) (rz_mk h ι, w) = rg Z d rx_m0 9 L (.ref w.1 :: S) (rz_mk (rx_up h w.1 (.inl (0, 8, fun _ => .int 0))) (rz_z ι w.1), w.1 + 1, w.2 + 8) := rz_nwa rfl (by decide) (by decide)
theorem g0_9 (c : rz_fR h a 0 0) (hv : rz_isr v = true) (hz : Z.2.1 ≤ a) : rg Z d rx_m0 9 L (v :: .ref a :: S) (rz_mk h ι, w) = rg Z d rx_m0 12 L S (rz_mk (rz_hs h a 0 v) ι, w) := rz_pR rfl c hv hz
theorem g0_12 : rg Z d rx_m0 12 [some (.ref a)] S (rz_mk h ι, w) = rg Z d rx_m0 13 [some (.ref a)] (.ref a :: S) (rz_mk h ι, w) := rz_s1 fun _ => rfl
theorem g0_13 : rg Z d rx_m0 13 L S (rz_mk h ι, w) = rg Z d rx_m0 15 L (.int 8 :: S) (rz_mk h ι, w) := rz_s1 fun _ => rfl
theorem g0_15 : rg Z d rx_m0 15 L (.int 8 :: S) (rz_mk h ι, w) = rg Z d rx_m0 17 L (.ref w.1 :: S) (rz_mk (rx_up h w.1 (.inl (0, 8, fun _ => .int 0))) (rz_z ι w.1), w.1 + 1, w.2 + 8) := rz_nwa rfl (by decide) (by decide)
theorem g0_17 (c : rz_fR h a 0 1) (hv : rz_isr v = true) (hz : Z.2.1 ≤ a) : rg Z d rx_m0 17 L (v :: .ref a :: S) (rz_mk h ι, w) = rg Z d rx_m0 20 L S (rz_mk (rz_hs h a 1 v) ι, w) := rz_pR rfl c hv hz
theorem g0_20 : rg Z d rx_m0 20 [some (.ref a)] S (rz_mk h ι, w) = rg Z d rx_m0 21 [some (.ref a)] (.ref a :: S) (rz_mk h ι, w) := rz_s1 fun _ => rfl
theorem g0_21 : rg Z d rx_m0 21 L S (rz_mk h ι, w) = rg Z d rx_m0 22 L (.int 0 :: S) (rz_mk h ι, w) := rz_s1 fun _ => rfl
theorem g0_22 (c : rz_fI h a 0 2) (hz : Z.2.1 ≤ a) : rg Z d rx_m0 22 L (.int x :: .ref a :: S) (rz_mk h ι, w) = rg Z d rx_m0 25 L S (rz_mk h (rz_up ι a 2 x), w) := rz_pI rfl c hz
theorem g0_25 : rg Z d rx_m0 25 [some (.ref a)] S (rz_mk h ι, w) = rg Z d rx_m0 26 [some (.ref a)] (.ref a :: S) (rz_mk h ι, w) := rz_s1 fun _ => rfl
theorem g0_26 (c : rz_oc h a 0) : rg Z d rx_m0 26 L (.ref a :: []) (rz_mk h ι, w) = rz_k true (rz_f Z d 1 [.ref a] (rz_mk h ι, w)) (fun v σ' => rg Z d rx_m0 29 L (v.toList ++ []) σ') := rz_cv (pc := 26) (n := 0) (mi := 1) (S := .ref a :: []) (rest := []) rfl rfl (Nat.le_of_ble_eq_true rfl) (Nat.le_of_ble_eq_true rfl) c
theorem g0_29 : rg Z d rx_m0 29 L [] (rz_mk h ι, w) = some (.inl none, (rz_mk h ι, w)) := rz_r1 fun _ => rfl
theorem e0 : rz_f Z (d + 1) 0 [.ref t0] σ = rg Z d rx_m0 0 [some (.ref t0)] [] σ := rz_f_eq rfl (Nat.le_of_ble_eq_true rfl)
theorem g1_0 : rg Z d rx_m1 0 L S (rz_mk h ι, w) = rg Z d rx_m1 1 L (.int 0 :: S) (rz_mk h ι, w) := rz_s1 fun _ => rfl
theorem g1_1 : rg Z d rx_m1 1 [some (.ref b), l1] (.int x :: S) (rz_mk h ι, w) = rg Z d rx_m1 2 [some (.ref b), some (.int x)] S (rz_mk h ι, w) := rz_s1 fun _ => rfl
theorem g1_2 : rg Z d rx_m1 2 [l0, some (.int x)] S (rz_mk h ι, w) = rg Z d rx_m1 3 [l0, some (.int x)] (.int x :: S) (rz_mk h ι, w) := rz_s1 fun _ => rfl
theorem g1_3 : rg Z d rx_m1 3 [some (.ref a), l1] S (rz_mk h ι, w) = rg Z d rx_m1 4 [some (.ref a), l1] (.ref a :: S) (rz_mk h ι, w) := rz_s1 fun _ => rfl
theorem g1_4 (c : rz_fR h a 0 0) : rg Z d rx_m1 4 L (.ref a :: S) (rz_mk h ι, w) = rg Z d rx_m1 7 L (rz_rv h a 0 :: S) (rz_mk h ι, w) := rz_gR rfl (by decide) c
theorem g1_7 (c : rz_ar h a 0) : rg Z d rx_m1 7 L (.ref a :: S) (rz_mk h ι, w) = rg Z d rx_m1 8 L (.int (Int32.ofNat (rz_ln h a)) :: S) (rz_mk h ι, w) := rz_alen (by decide) rfl c
theorem g1_8 : rg Z d rx_m1 8 L (.int y :: .int x :: S) (rz_mk h ι, w) = if x < y then rg Z d rx_m1 11 L S (rz_mk h ι, w) else rg Z d rx_m1 24 L S (rz_mk h ι, w) := rz_if2 (pc := 8) (t := 24) (off := 16) (cc := .ge) (by decide) rfl
theorem g1_11 : rg Z d rx_m1 11 [some (.ref a), l1] S (rz_mk h ι, w) = rg Z d rx_m1 12 [some (.ref a), l1] (.ref a :: S) (rz_mk h ι, w) := rz_s1 fun _ => rfl
theorem g1_12 (c : rz_fR h a 0 0) : rg Z d rx_m1 12 L (.ref a :: S) (rz_mk h ι, w) = rg Z d rx_m1 15 L (rz_rv h a 0 :: S) (rz_mk h ι, w) := rz_gR rfl (by decide) c
theorem g1_15 : rg Z d rx_m1 15 [l0, some (.int x)] S (rz_mk h ι, w) = rg Z d rx_m1 16 [l0, some (.int x)] (.int x :: S) (rz_mk h ι, w) := rz_s1 fun _ => rfl
theorem g1_16 : rg Z d rx_m1 16 L S (rz_mk h ι, w) = rg Z d rx_m1 17 L (.int (-1) :: S) (rz_mk h ι, w) := rz_s1 fun _ => rfl
theorem g1_17 (c : rz_ar h a 0) (hi : rz_ix x (rz_ln h a)) (hz : Z.2.1 ≤ a) : rg Z d rx_m1 17 L (.int y :: .int x :: .ref a :: S) (rz_mk h ι, w) = rg Z d rx_m1 18 L S (rz_mk h (rz_up ι a x.toNatClampNeg y), w) := rz_iast rfl c hi hz
theorem g1_18 : rg Z d rx_m1 18 [some (.ref b), some (.int x)] S (rz_mk h ι, w) = rg Z d rx_m1 21 [some (.ref b), some (.int (x + 1))] S (rz_mk h ι, w) := rz_s1 fun _ => rfl
theorem g1_21 : rg Z d rx_m1 21 L S (rz_mk h ι, w) = rg Z d rx_m1 2 L S (rz_mk h ι, w) := rz_s1 fun _ => rfl
theorem g1_24 : rg Z d rx_m1 24 [some (.ref a), l1] S (rz_mk h ι, w) = rg Z d rx_m1 25 [some (.ref a), l1] (.ref a :: S) (rz_mk h ι, w) := rz_s1 fun _ => rfl
theorem g1_25 : rg Z d rx_m1 25 L S (rz_mk h ι, w) = rg Z d rx_m1 26 L (.int 0 :: S) (rz_mk h ι, w) := rz_s1 fun _ => rfl
theorem g1_26 (c : rz_fI h a 0 2) (hz : Z.2.1 ≤ a) : rg Z d rx_m1 26 L (.int x :: .ref a :: S) (rz_mk h ι, w) = rg Z d rx_m1 29 L S (rz_mk h (rz_up ι a 2 x), w) := rz_pI rfl c hz
theorem g1_29 : rg Z d rx_m1 29 L [] (rz_mk h ι, w) = some (.inl none, (rz_mk h ι, w)) := rz_r1 fun _ => rfl
theorem e1 : rz_f Z (d + 1) 1 [.ref t0] σ = rg Z d rx_m1 0 [some (.ref t0), none] [] σ := rz_f_eq rfl (Nat.le_of_ble_eq_true rfl)
theorem g2_0 : rg Z d rx_m2 0 [some (.ref a), l1] S (rz_mk h ι, w) = rg Z d rx_m2 1 [some (.ref a), l1] (.ref a :: S) (rz_mk h ι, w) := rz_s1 fun _ => rfl
theorem g2_1 : rg Z d rx_m2 1 [l0, some (.int x)] S (rz_mk h ι, w) = rg Z d rx_m2 2 [l0, some (.int x)] (.int x :: S) (rz_mk h ι, w) := rz_s1 fun _ => rfl
theorem g2_2 (c : rz_oc h a 0) : rg Z d rx_m2 2 L (v1 :: .ref a :: []) (rz_mk h ι, w) = rz_k true (rz_f Z d 3 [.ref a, v1] (rz_mk h ι, w)) (fun v σ' => rg Z d rx_m2 5 L (v.toList ++ []) σ') := rz_cv (pc := 2) (n := 1) (mi := 3) (S := v1 :: .ref a :: []) (rest := []) rfl rfl (Nat.le_of_ble_eq_true rfl) (Nat.le_of_ble_eq_true rfl) c
theorem g2_5 : rg Z d rx_m2 5 L S (rz_mk h ι, w) = rg Z d rx_m2 6 L (.int (-1) :: S) (rz_mk h ι, w) := rz_s1 fun _ => rfl
theorem g2_6 : rg Z d rx_m2 6 L (.int y :: .int x :: S) (rz_mk h ι, w) = if x = y then rg Z d rx_m2 13 L S (rz_mk h ι, w) else rg Z d rx_m2 9 L S (rz_mk h ι, w) := rz_if2 (pc := 6) (t := 13) (off := 7) (cc := .eq) (by decide) rfl
theorem g2_9 : rg Z d rx_m2 9 L S (rz_mk h ι, w) = rg Z d rx_m2 10 L (.int 1 :: S) (rz_mk h ι, w) := rz_s1 fun _ => rfl
theorem g2_10 : rg Z d rx_m2 10 L S (rz_mk h ι, w) = rg Z d rx_m2 14 L S (rz_mk h ι, w) := rz_s1 fun _ => rfl
theorem g2_13 : rg Z d rx_m2 13 L S (rz_mk h ι, w) = rg Z d rx_m2 14 L (.int 0 :: S) (rz_mk h ι, w) := rz_s1 fun _ => rfl
theorem g2_14 (c : narrow .boolean (.int x) = .int x) : rg Z d rx_m2 14 L [.int x] (rz_mk h ι, w) = some (.inl (some (.int x)), (rz_mk h ι, w)) := rz_reti rfl rfl c
theorem e2 : rz_f Z (d + 1) 2 [.ref t0, .int s1] σ = rg Z d rx_m2 0 [some (.ref t0), some (.int s1)] [] σ := rz_f_eq rfl (Nat.le_of_ble_eq_true rfl)
theorem g3_0 : rg Z d rx_m3 0 [l0, some (.int x)] S (rz_mk h ι, w) = rg Z d rx_m3 1 [l0, some (.int x)] (.int x :: S) (rz_mk h ι, w) := rz_s1 fun _ => rfl
theorem g3_1 : rg Z d rx_m3 1 L (.int x :: S) (rz_mk h ι, w) = if x < 0 then rg Z d rx_m3 22 L S (rz_mk h ι, w) else rg Z d rx_m3 4 L S (rz_mk h ι, w) := rz_if1 (pc := 1) (t := 22) (off := 21) (cc := .lt) (by decide) rfl
theorem g3_4 : rg Z d rx_m3 4 [l0, some (.int x)] S (rz_mk h ι, w) = rg Z d rx_m3 5 [l0, some (.int x)] (.int x :: S) (rz_mk h ι, w) := rz_s1 fun _ => rfl
theorem g3_5 : rg Z d rx_m3 5 [some (.ref a), l1] S (rz_mk h ι, w) = rg Z d rx_m3 6 [some (.ref a), l1] (.ref a :: S) (rz_mk h ι, w) := rz_s1 fun _ => rfl
theorem g3_6 (c : rz_fR h a 0 0) : rg Z d rx_m3 6 L (.ref a :: S) (rz_mk h ι, w) = rg Z d rx_m3 9 L (rz_rv h a 0 :: S) (rz_mk h ι, w) := rz_gR rfl (by decide) c
theorem g3_9 (c : rz_ar h a 0) : rg Z d rx_m3 9 L (.ref a :: S) (rz_mk h ι, w) = rg Z d rx_m3 10 L (.int (Int32.ofNat (rz_ln h a)) :: S) (rz_mk h ι, w) := rz_alen (by decide) rfl c
theorem g3_10 : rg Z d rx_m3 10 L (.int y :: .int x :: S) (rz_mk h ι, w) = if x < y then rg Z d rx_m3 13 L S (rz_mk h ι, w) else rg Z d rx_m3 22 L S (rz_mk h ι, w) := rz_if2 (pc := 10) (t := 22) (off := 12) (cc := .ge) (by decide) rfl
theorem g3_13 : rg Z d rx_m3 13 [some (.ref a), l1] S (rz_mk h ι, w) = rg Z d rx_m3 14 [some (.ref a), l1] (.ref a :: S) (rz_mk h ι, w) := rz_s1 fun _ => rfl
theorem g3_14 (c : rz_fR h a 0 0) : rg Z d rx_m3 14 L (.ref a :: S) (rz_mk h ι, w) = rg Z d rx_m3 17 L (rz_rv h a 0 :: S) (rz_mk h ι, w) := rz_gR rfl (by decide) c
theorem g3_17 : rg Z d rx_m3 17 [l0, some (.int x)] S (rz_mk h ι, w) = rg Z d rx_m3 18 [l0, some (.int x)] (.int x :: S) (rz_mk h ι, w) := rz_s1 fun _ => rfl
theorem g3_18 (c : rz_ar h a 0) (hi : rz_ix x (rz_ln h a)) : rg Z d rx_m3 18 L (.int x :: .ref a :: S) (rz_mk h ι, w) = rg Z d rx_m3 19 L (.int (ι a x.toNatClampNeg) :: S) (rz_mk h ι, w) := rz_iald rfl c hi
theorem g3_19 : rg Z d rx_m3 19 L S (rz_mk h ι, w) = rg Z d rx_m3 23 L S (rz_mk h ι, w) := rz_s1 fun _ => rfl
theorem g3_22 : rg Z d rx_m3 22 L S (rz_mk h ι, w) = rg Z d rx_m3 23 L (.int (-1) :: S) (rz_mk h ι, w) := rz_s1 fun _ => rfl
theorem g3_23 : rg Z d rx_m3 23 L [.int x] (rz_mk h ι, w) = some (.inl (some (.int x)), (rz_mk h ι, w)) := rz_reti rfl rfl rfl
theorem e3 : rz_f Z (d + 1) 3 [.ref t0, .int s1] σ = rg Z d rx_m3 0 [some (.ref t0), some (.int s1)] [] σ := rz_f_eq rfl (Nat.le_of_ble_eq_true rfl)
theorem g4_0 : rg Z d rx_m4 0 L S (rz_mk h ι, w) = rg Z d rx_m4 1 L (.int 0 :: S) (rz_mk h ι, w) := rz_s1 fun _ => rfl
theorem g4_1 : rg Z d rx_m4 1 [l0, some (.ref b), l2, l3] (.int x :: S) (rz_mk h ι, w) = rg Z d rx_m4 2 [l0, some (.ref b), some (.int x), l3] S (rz_mk h ι, w) := rz_s1 fun _ => rfl
theorem g4_2 : rg Z d rx_m4 2 [l0, l1, some (.int x), l3] S (rz_mk h ι, w) = rg Z d rx_m4 3 [l0, l1, some (.int x), l3] (.int x :: S) (rz_mk h ι, w) := rz_s1 fun _ => rfl
theorem g4_3 : rg Z d rx_m4 3 [some (.ref a), l1, l2, l3] S (rz_mk h ι, w) = rg Z d rx_m4 4 [some (.ref a), l1, l2, l3] (.ref a :: S) (rz_mk h ι, w) := rz_s1 fun _ => rfl
theorem g4_4 (c : rz_fR h a 0 1) : rg Z d rx_m4 4 L (.ref a :: S) (rz_mk h ι, w) = rg Z d rx_m4 7 L (rz_rv h a 1 :: S) (rz_mk h ι, w) := rz_gR rfl (by decide) c
theorem g4_7 (c : rz_ar h a 0) : rg Z d rx_m4 7 L (.ref a :: S) (rz_mk h ι, w) = rg Z d rx_m4 8 L (.int (Int32.ofNat (rz_ln h a)) :: S) (rz_mk h ι, w) := rz_alen (by decide) rfl c
theorem g4_8 : rg Z d rx_m4 8 L (.int y :: .int x :: S) (rz_mk h ι, w) = if x < y then rg Z d rx_m4 11 L S (rz_mk h ι, w) else rg Z d rx_m4 24 L S (rz_mk h ι, w) := rz_if2 (pc := 8) (t := 24) (off := 16) (cc := .ge) (by decide) rfl
theorem g4_11 : rg Z d rx_m4 11 [some (.ref a), l1, l2, l3] S (rz_mk h ι, w) = rg Z d rx_m4 12 [some (.ref a), l1, l2, l3] (.ref a :: S) (rz_mk h ι, w) := rz_s1 fun _ => rfl
theorem g4_12 (c : rz_fR h a 0 1) : rg Z d rx_m4 12 L (.ref a :: S) (rz_mk h ι, w) = rg Z d rx_m4 15 L (rz_rv h a 1 :: S) (rz_mk h ι, w) := rz_gR rfl (by decide) c
theorem g4_15 : rg Z d rx_m4 15 [l0, l1, some (.int x), l3] S (rz_mk h ι, w) = rg Z d rx_m4 16 [l0, l1, some (.int x), l3] (.int x :: S) (rz_mk h ι, w) := rz_s1 fun _ => rfl
theorem g4_16 : rg Z d rx_m4 16 L S (rz_mk h ι, w) = rg Z d rx_m4 17 L (.int (-1) :: S) (rz_mk h ι, w) := rz_s1 fun _ => rfl
theorem g4_17 (c : rz_ar h a 0) (hi : rz_ix x (rz_ln h a)) (hz : Z.2.1 ≤ a) : rg Z d rx_m4 17 L (.int y :: .int x :: .ref a :: S) (rz_mk h ι, w) = rg Z d rx_m4 18 L S (rz_mk h (rz_up ι a x.toNatClampNeg y), w) := rz_iast rfl c hi hz
theorem g4_18 : rg Z d rx_m4 18 [l0, some (.ref b), some (.int x), l3] S (rz_mk h ι, w) = rg Z d rx_m4 21 [l0, some (.ref b), some (.int (x + 1)), l3] S (rz_mk h ι, w) := rz_s1 fun _ => rfl
theorem g4_21 : rg Z d rx_m4 21 L S (rz_mk h ι, w) = rg Z d rx_m4 2 L S (rz_mk h ι, w) := rz_s1 fun _ => rfl
theorem g4_24 : rg Z d rx_m4 24 L S (rz_mk h ι, w) = rg Z d rx_m4 25 L (.int 0 :: S) (rz_mk h ι, w) := rz_s1 fun _ => rfl
theorem g4_25 : rg Z d rx_m4 25 [l0, some (.ref b), l2, l3] (.int x :: S) (rz_mk h ι, w) = rg Z d rx_m4 26 [l0, some (.ref b), some (.int x), l3] S (rz_mk h ι, w) := rz_s1 fun _ => rfl
theorem g4_26 : rg Z d rx_m4 26 L S (rz_mk h ι, w) = rg Z d rx_m4 27 L (.int 0 :: S) (rz_mk h ι, w) := rz_s1 fun _ => rfl
theorem g4_27 : rg Z d rx_m4 27 [l0, l1, some (.int z), l3] (.int x :: S) (rz_mk h ι, w) = rg Z d rx_m4 28 [l0, l1, some (.int z), some (.int x)] S (rz_mk h ι, w) := rz_s1 fun _ => rfl
theorem g4_28 : rg Z d rx_m4 28 [l0, l1, l2, some (.int x)] S (rz_mk h ι, w) = rg Z d rx_m4 29 [l0, l1, l2, some (.int x)] (.int x :: S) (rz_mk h ι, w) := rz_s1 fun _ => rfl
theorem g4_29 : rg Z d rx_m4 29 L S (rz_mk h ι, w) = rg Z d rx_m4 31 L (.int 60 :: S) (rz_mk h ι, w) := rz_s1 fun _ => rfl
theorem g4_31 : rg Z d rx_m4 31 L (.int y :: .int x :: S) (rz_mk h ι, w) = if y < x then rg Z d rx_m4 61 L S (rz_mk h ι, w) else rg Z d rx_m4 34 L S (rz_mk h ι, w) := rz_if2 (pc := 31) (t := 61) (off := 30) (cc := .gt) (by decide) rfl
theorem g4_34 : rg Z d rx_m4 34 [l0, some (.ref a), l2, l3] S (rz_mk h ι, w) = rg Z d rx_m4 35 [l0, some (.ref a), l2, l3] (.ref a :: S) (rz_mk h ι, w) := rz_s1 fun _ => rfl
theorem g4_35 (c : rz_oc h a 9) : rg Z d rx_m4 35 L (.ref a :: []) (rz_mk h ι, w) = rz_k true (rz_f Z d 94 [.ref a] (rz_mk h ι, w)) (fun v σ' => rg Z d rx_m4 38 L (v.toList ++ []) σ') := rz_cv (pc := 35) (n := 0) (mi := 94) (S := .ref a :: []) (rest := []) rfl rfl (Nat.le_of_ble_eq_true rfl) (Nat.le_of_ble_eq_true rfl) c
theorem g4_38 : rg Z d rx_m4 38 L S (rz_mk h ι, w) = rg Z d rx_m4 39 L (.int (-1) :: S) (rz_mk h ι, w) := rz_s1 fun _ => rfl
theorem g4_39 : rg Z d rx_m4 39 L (.int y :: .int x :: S) (rz_mk h ι, w) = if x = y then rg Z d rx_m4 61 L S (rz_mk h ι, w) else rg Z d rx_m4 42 L S (rz_mk h ι, w) := rz_if2 (pc := 39) (t := 61) (off := 22) (cc := .eq) (by decide) rfl
theorem g4_42 : rg Z d rx_m4 42 [some (.ref a), l1, l2, l3] S (rz_mk h ι, w) = rg Z d rx_m4 43 [some (.ref a), l1, l2, l3] (.ref a :: S) (rz_mk h ι, w) := rz_s1 fun _ => rfl
theorem g4_43 : rg Z d rx_m4 43 [l0, some (.ref a), l2, l3] S (rz_mk h ι, w) = rg Z d rx_m4 44 [l0, some (.ref a), l2, l3] (.ref a :: S) (rz_mk h ι, w) := rz_s1 fun _ => rfl
theorem g4_44 (c : rz_oc h a 0) : rg Z d rx_m4 44 L (v1 :: .ref a :: []) (rz_mk h ι, w) = rz_k true (rz_f Z d 5 [.ref a, v1] (rz_mk h ι, w)) (fun v σ' => rg Z d rx_m4 47 L (v.toList ++ []) σ') := rz_cv (pc := 44) (n := 1) (mi := 5) (S := v1 :: .ref a :: []) (rest := []) rfl rfl (Nat.le_of_ble_eq_true rfl) (Nat.le_of_ble_eq_true rfl) c
theorem g4_47 : rg Z d rx_m4 47 L (.int x :: S) (rz_mk h ι, w) = if x = 0 then rg Z d rx_m4 50 L S (rz_mk h ι, w) else rg Z d rx_m4 52 L S (rz_mk h ι, w) := rz_if1 (pc := 47) (t := 52) (off := 5) (cc := .ne) (by decide) rfl
theorem g4_50 : rg Z d rx_m4 50 L S (rz_mk h ι, w) = rg Z d rx_m4 51 L (.int 0 :: S) (rz_mk h ι, w) := rz_s1 fun _ => rfl
theorem g4_51 (c : narrow .boolean (.int x) = .int x) : rg Z d rx_m4 51 L [.int x] (rz_mk h ι, w) = some (.inl (some (.int x)), (rz_mk h ι, w)) := rz_reti rfl rfl c
theorem g4_52 : rg Z d rx_m4 52 [l0, some (.ref b), some (.int x), l3] S (rz_mk h ι, w) = rg Z d rx_m4 55 [l0, some (.ref b), some (.int (x + 1)), l3] S (rz_mk h ι, w) := rz_s1 fun _ => rfl
theorem g4_55 : rg Z d rx_m4 55 [l0, l1, some (.int z), some (.int x)] S (rz_mk h ι, w) = rg Z d rx_m4 58 [l0, l1, some (.int z), some (.int (x + 1))] S (rz_mk h ι, w) := rz_s1 fun _ => rfl
theorem g4_58 : rg Z d rx_m4 58 L S (rz_mk h ι, w) = rg Z d rx_m4 28 L S (rz_mk h ι, w) := rz_s1 fun _ => rfl
theorem g4_61 : rg Z d rx_m4 61 [some (.ref a), l1, l2, l3] S (rz_mk h ι, w) = rg Z d rx_m4 62 [some (.ref a), l1, l2, l3] (.ref a :: S) (rz_mk h ι, w) := rz_s1 fun _ => rfl
theorem g4_62 (c : rz_fR h a 0 1) : rg Z d rx_m4 62 L (.ref a :: S) (rz_mk h ι, w) = rg Z d rx_m4 65 L (rz_rv h a 1 :: S) (rz_mk h ι, w) := rz_gR rfl (by decide) c
theorem g4_65 : rg Z d rx_m4 65 L S (rz_mk h ι, w) = rg Z d rx_m4 66 L (.int 0 :: S) (rz_mk h ι, w) := rz_s1 fun _ => rfl
theorem g4_66 : rg Z d rx_m4 66 [some (.ref a), l1, l2, l3] S (rz_mk h ι, w) = rg Z d rx_m4 67 [some (.ref a), l1, l2, l3] (.ref a :: S) (rz_mk h ι, w) := rz_s1 fun _ => rfl
theorem g4_67 (c : rz_fR h a 0 0) : rg Z d rx_m4 67 L (.ref a :: S) (rz_mk h ι, w) = rg Z d rx_m4 70 L (rz_rv h a 0 :: S) (rz_mk h ι, w) := rz_gR rfl (by decide) c
theorem g4_70 : rg Z d rx_m4 70 L S (rz_mk h ι, w) = rg Z d rx_m4 71 L (.int 0 :: S) (rz_mk h ι, w) := rz_s1 fun _ => rfl
theorem g4_71 : rg Z d rx_m4 71 [some (.ref a), l1, l2, l3] S (rz_mk h ι, w) = rg Z d rx_m4 72 [some (.ref a), l1, l2, l3] (.ref a :: S) (rz_mk h ι, w) := rz_s1 fun _ => rfl
theorem g4_72 (c : rz_fR h a 0 0) : rg Z d rx_m4 72 L (.ref a :: S) (rz_mk h ι, w) = rg Z d rx_m4 75 L (rz_rv h a 0 :: S) (rz_mk h ι, w) := rz_gR rfl (by decide) c
theorem g4_75 (c : rz_ar h a 0) : rg Z d rx_m4 75 L (.ref a :: S) (rz_mk h ι, w) = rg Z d rx_m4 76 L (.int (Int32.ofNat (rz_ln h a)) :: S) (rz_mk h ι, w) := rz_alen (by decide) rfl c
theorem g4_76 (ha : rz_ar h a 0) (hb : rz_ar h b 0) (hz : Z.2.1 ≤ b) (h1 : ¬ z < 0) (h2 : ¬ y < 0) (h3 : ¬ x < 0) (h4 : z.toNatClampNeg + x.toNatClampNeg ≤ rz_ln h a) (h5 : y.toNatClampNeg + x.toNatClampNeg ≤ rz_ln h b) : rg Z d rx_m4 76 L (.int x :: .int y :: .ref b :: .int z :: .ref a :: []) (rz_mk h ι, w) = rg Z d rx_m4 79 L [] (rz_mk h (rz_cp ι a b z.toNatClampNeg y.toNatClampNeg x.toNatClampNeg), w) := rz_acp rfl (Nat.le_of_ble_eq_true rfl) ha hb hz h1 h2 h3 h4 h5
theorem g4_79 : rg Z d rx_m4 79 [some (.ref a), l1, l2, l3] S (rz_mk h ι, w) = rg Z d rx_m4 80 [some (.ref a), l1, l2, l3] (.ref a :: S) (rz_mk h ι, w) := rz_s1 fun _ => rfl
theorem g4_80 : rg Z d rx_m4 80 [l0, l1, some (.int x), l3] S (rz_mk h ι, w) = rg Z d rx_m4 81 [l0, l1, some (.int x), l3] (.int x :: S) (rz_mk h ι, w) := rz_s1 fun _ => rfl
theorem g4_81 (c : rz_fI h a 0 2) (hz : Z.2.1 ≤ a) : rg Z d rx_m4 81 L (.int x :: .ref a :: S) (rz_mk h ι, w) = rg Z d rx_m4 84 L S (rz_mk h (rz_up ι a 2 x), w) := rz_pI rfl c hz
theorem g4_84 : rg Z d rx_m4 84 L S (rz_mk h ι, w) = rg Z d rx_m4 85 L (.int 1 :: S) (rz_mk h ι, w) := rz_s1 fun _ => rfl
theorem g4_85 (c : narrow .boolean (.int x) = .int x) : rg Z d rx_m4 85 L [.int x] (rz_mk h ι, w) = some (.inl (some (.int x)), (rz_mk h ι, w)) := rz_reti rfl rfl c
theorem e4 : rz_f Z (d + 1) 4 [.ref t0, .ref t1] σ = rg Z d rx_m4 0 [some (.ref t0), some (.ref t1), none, none] [] σ := rz_f_eq rfl (Nat.le_of_ble_eq_true rfl)
theorem g5_0 : rg Z d rx_m5 0 [l0, some (.ref a), l2] S (rz_mk h ι, w) = rg Z d rx_m5 1 [l0, some (.ref a), l2] (.ref a :: S) (rz_mk h ι, w) := rz_s1 fun _ => rfl
theorem g5_1 : rg Z d rx_m5 1 L S (rz_mk h ι, w) = rg Z d rx_m5 3 L (.int 7 :: S) (rz_mk h ι, w) := rz_s1 fun _ => rfl
theorem g5_3 (c : rz_oc h a 9) : rg Z d rx_m5 3 L (v1 :: .ref a :: []) (rz_mk h ι, w) = rz_k true (rz_f Z d 99 [.ref a, v1] (rz_mk h ι, w)) (fun v σ' => rg Z d rx_m5 6 L (v.toList ++ []) σ') := rz_cv (pc := 3) (n := 1) (mi := 99) (S := v1 :: .ref a :: []) (rest := []) rfl rfl (Nat.le_of_ble_eq_true rfl) (Nat.le_of_ble_eq_true rfl) c
theorem g5_6 : rg Z d rx_m5 6 [l0, some (.ref b), l2] (.int x :: S) (rz_mk h ι, w) = rg Z d rx_m5 7 [l0, some (.ref b), some (.int x)] S (rz_mk h ι, w) := rz_s1 fun _ => rfl
theorem g5_7 : rg Z d rx_m5 7 [l0, l1, some (.int x)] S (rz_mk h ι, w) = rg Z d rx_m5 8 [l0, l1, some (.int x)] (.int x :: S) (rz_mk h ι, w) := rz_s1 fun _ => rfl
theorem g5_8 : rg Z d rx_m5 8 L S (rz_mk h ι, w) = rg Z d rx_m5 9 L (.int (-1) :: S) (rz_mk h ι, w) := rz_s1 fun _ => rfl
theorem g5_9 : rg Z d rx_m5 9 L (.int y :: .int x :: S) (rz_mk h ι, w) = if x = y then rg Z d rx_m5 21 L S (rz_mk h ι, w) else rg Z d rx_m5 12 L S (rz_mk h ι, w) := rz_if2 (pc := 9) (t := 21) (off := 12) (cc := .eq) (by decide) rfl
theorem g5_12 : rg Z d rx_m5 12 [l0, l1, some (.int x)] S (rz_mk h ι, w) = rg Z d rx_m5 13 [l0, l1, some (.int x)] (.int x :: S) (rz_mk h ι, w) := rz_s1 fun _ => rfl
theorem g5_13 : rg Z d rx_m5 13 [some (.ref a), l1, l2] S (rz_mk h ι, w) = rg Z d rx_m5 14 [some (.ref a), l1, l2] (.ref a :: S) (rz_mk h ι, w) := rz_s1 fun _ => rfl
theorem g5_14 (c : rz_fR h a 0 1) : rg Z d rx_m5 14 L (.ref a :: S) (rz_mk h ι, w) = rg Z d rx_m5 17 L (rz_rv h a 1 :: S) (rz_mk h ι, w) := rz_gR rfl (by decide) c
theorem g5_17 (c : rz_ar h a 0) : rg Z d rx_m5 17 L (.ref a :: S) (rz_mk h ι, w) = rg Z d rx_m5 18 L (.int (Int32.ofNat (rz_ln h a)) :: S) (rz_mk h ι, w) := rz_alen (by decide) rfl c
theorem g5_18 : rg Z d rx_m5 18 L (.int y :: .int x :: S) (rz_mk h ι, w) = if x < y then rg Z d rx_m5 23 L S (rz_mk h ι, w) else rg Z d rx_m5 21 L S (rz_mk h ι, w) := rz_if2 (pc := 18) (t := 23) (off := 5) (cc := .lt) (by decide) rfl
theorem g5_21 : rg Z d rx_m5 21 L S (rz_mk h ι, w) = rg Z d rx_m5 22 L (.int 0 :: S) (rz_mk h ι, w) := rz_s1 fun _ => rfl
theorem g5_22 (c : narrow .boolean (.int x) = .int x) : rg Z d rx_m5 22 L [.int x] (rz_mk h ι, w) = some (.inl (some (.int x)), (rz_mk h ι, w)) := rz_reti rfl rfl c
theorem g5_23 : rg Z d rx_m5 23 [some (.ref a), l1, l2] S (rz_mk h ι, w) = rg Z d rx_m5 24 [some (.ref a), l1, l2] (.ref a :: S) (rz_mk h ι, w) := rz_s1 fun _ => rfl
theorem g5_24 (c : rz_fR h a 0 1) : rg Z d rx_m5 24 L (.ref a :: S) (rz_mk h ι, w) = rg Z d rx_m5 27 L (rz_rv h a 1 :: S) (rz_mk h ι, w) := rz_gR rfl (by decide) c
theorem g5_27 : rg Z d rx_m5 27 [l0, l1, some (.int x)] S (rz_mk h ι, w) = rg Z d rx_m5 28 [l0, l1, some (.int x)] (.int x :: S) (rz_mk h ι, w) := rz_s1 fun _ => rfl
theorem g5_28 (c : rz_ar h a 0) (hi : rz_ix x (rz_ln h a)) : rg Z d rx_m5 28 L (.int x :: .ref a :: S) (rz_mk h ι, w) = rg Z d rx_m5 29 L (.int (ι a x.toNatClampNeg) :: S) (rz_mk h ι, w) := rz_iald rfl c hi
theorem g5_29 : rg Z d rx_m5 29 L S (rz_mk h ι, w) = rg Z d rx_m5 30 L (.int (-1) :: S) (rz_mk h ι, w) := rz_s1 fun _ => rfl
theorem g5_30 : rg Z d rx_m5 30 L (.int y :: .int x :: S) (rz_mk h ι, w) = if x = y then rg Z d rx_m5 39 L S (rz_mk h ι, w) else rg Z d rx_m5 33 L S (rz_mk h ι, w) := rz_if2 (pc := 30) (t := 39) (off := 9) (cc := .eq) (by decide) rfl
theorem g5_33 : rg Z d rx_m5 33 [l0, some (.ref a), l2] S (rz_mk h ι, w) = rg Z d rx_m5 34 [l0, some (.ref a), l2] (.ref a :: S) (rz_mk h ι, w) := rz_s1 fun _ => rfl
theorem g5_34 : rg Z d rx_m5 34 L S (rz_mk h ι, w) = rg Z d rx_m5 35 L (.int 2 :: S) (rz_mk h ι, w) := rz_s1 fun _ => rfl
theorem g5_35 (c : rz_oc h a 9) : rg Z d rx_m5 35 L (v1 :: .ref a :: []) (rz_mk h ι, w) = rz_k true (rz_f Z d 92 [.ref a, v1] (rz_mk h ι, w)) (fun v σ' => rg Z d rx_m5 38 L (v.toList ++ []) σ') := rz_cv (pc := 35) (n := 1) (mi := 92) (S := v1 :: .ref a :: []) (rest := []) rfl rfl (Nat.le_of_ble_eq_true rfl) (Nat.le_of_ble_eq_true rfl) c
theorem g5_38 (c : narrow .boolean (.int x) = .int x) : rg Z d rx_m5 38 L [.int x] (rz_mk h ι, w) = some (.inl (some (.int x)), (rz_mk h ι, w)) := rz_reti rfl rfl c
theorem g5_39 : rg Z d rx_m5 39 [some (.ref a), l1, l2] S (rz_mk h ι, w) = rg Z d rx_m5 40 [some (.ref a), l1, l2] (.ref a :: S) (rz_mk h ι, w) := rz_s1 fun _ => rfl
theorem g5_40 (c : rz_fR h a 0 1) : rg Z d rx_m5 40 L (.ref a :: S) (rz_mk h ι, w) = rg Z d rx_m5 43 L (rz_rv h a 1 :: S) (rz_mk h ι, w) := rz_gR rfl (by decide) c
theorem g5_43 : rg Z d rx_m5 43 [l0, l1, some (.int x)] S (rz_mk h ι, w) = rg Z d rx_m5 44 [l0, l1, some (.int x)] (.int x :: S) (rz_mk h ι, w) := rz_s1 fun _ => rfl
theorem g5_44 : rg Z d rx_m5 44 [l0, some (.ref a), l2] S (rz_mk h ι, w) = rg Z d rx_m5 45 [l0, some (.ref a), l2] (.ref a :: S) (rz_mk h ι, w) := rz_s1 fun _ => rfl
theorem g5_45 : rg Z d rx_m5 45 L S (rz_mk h ι, w) = rg Z d rx_m5 47 L (.int 99 :: S) (rz_mk h ι, w) := rz_s1 fun _ => rfl
theorem g5_47 (c : rz_oc h a 9) : rg Z d rx_m5 47 L (v1 :: .ref a :: [.int s0, .ref t1]) (rz_mk h ι, w) = rz_k true (rz_f Z d 99 [.ref a, v1] (rz_mk h ι, w)) (fun v σ' => rg Z d rx_m5 50 L (v.toList ++ [.int s0, .ref t1]) σ') := rz_cv (pc := 47) (n := 1) (mi := 99) (S := v1 :: .ref a :: [.int s0, .ref t1]) (rest := [.int s0, .ref t1]) rfl rfl (Nat.le_of_ble_eq_true rfl) (Nat.le_of_ble_eq_true rfl) c
theorem g5_50 (c : rz_ar h a 0) (hi : rz_ix x (rz_ln h a)) (hz : Z.2.1 ≤ a) : rg Z d rx_m5 50 L (.int y :: .int x :: .ref a :: S) (rz_mk h ι, w) = rg Z d rx_m5 51 L S (rz_mk h (rz_up ι a x.toNatClampNeg y), w) := rz_iast rfl c hi hz
theorem g5_51 : rg Z d rx_m5 51 [some (.ref a), l1, l2] S (rz_mk h ι, w) = rg Z d rx_m5 52 [some (.ref a), l1, l2] (.ref a :: S) (rz_mk h ι, w) := rz_s1 fun _ => rfl
theorem g5_52 (c : rz_fR h a 0 1) : rg Z d rx_m5 52 L (.ref a :: S) (rz_mk h ι, w) = rg Z d rx_m5 55 L (rz_rv h a 1 :: S) (rz_mk h ι, w) := rz_gR rfl (by decide) c
theorem g5_55 : rg Z d rx_m5 55 [l0, l1, some (.int x)] S (rz_mk h ι, w) = rg Z d rx_m5 56 [l0, l1, some (.int x)] (.int x :: S) (rz_mk h ι, w) := rz_s1 fun _ => rfl
theorem g5_56 (c : rz_ar h a 0) (hi : rz_ix x (rz_ln h a)) : rg Z d rx_m5 56 L (.int x :: .ref a :: S) (rz_mk h ι, w) = rg Z d rx_m5 57 L (.int (ι a x.toNatClampNeg) :: S) (rz_mk h ι, w) := rz_iald rfl c hi
theorem g5_57 : rg Z d rx_m5 57 L S (rz_mk h ι, w) = rg Z d rx_m5 58 L (.int (-1) :: S) (rz_mk h ι, w) := rz_s1 fun _ => rfl
theorem g5_58 : rg Z d rx_m5 58 L (.int y :: .int x :: S) (rz_mk h ι, w) = if x = y then rg Z d rx_m5 74 L S (rz_mk h ι, w) else rg Z d rx_m5 61 L S (rz_mk h ι, w) := rz_if2 (pc := 58) (t := 74) (off := 16) (cc := .eq) (by decide) rfl
theorem g5_61 : rg Z d rx_m5 61 [l0, some (.ref a), l2] S (rz_mk h ι, w) = rg Z d rx_m5 62 [l0, some (.ref a), l2] (.ref a :: S) (rz_mk h ι, w) := rz_s1 fun _ => rfl
theorem g5_62 : rg Z d rx_m5 62 L S (rz_mk h ι, w) = rg Z d rx_m5 64 L (.int 59 :: S) (rz_mk h ι, w) := rz_s1 fun _ => rfl
theorem g5_64 (c : rz_oc h a 9) : rg Z d rx_m5 64 L (v1 :: .ref a :: []) (rz_mk h ι, w) = rz_k true (rz_f Z d 96 [.ref a, v1] (rz_mk h ι, w)) (fun v σ' => rg Z d rx_m5 67 L (v.toList ++ []) σ') := rz_cv (pc := 64) (n := 1) (mi := 96) (S := v1 :: .ref a :: []) (rest := []) rfl rfl (Nat.le_of_ble_eq_true rfl) (Nat.le_of_ble_eq_true rfl) c
theorem g5_67 : rg Z d rx_m5 67 L (.int x :: S) (rz_mk h ι, w) = if x = 0 then rg Z d rx_m5 74 L S (rz_mk h ι, w) else rg Z d rx_m5 70 L S (rz_mk h ι, w) := rz_if1 (pc := 67) (t := 74) (off := 7) (cc := .eq) (by decide) rfl
theorem g5_70 : rg Z d rx_m5 70 L S (rz_mk h ι, w) = rg Z d rx_m5 71 L (.int 1 :: S) (rz_mk h ι, w) := rz_s1 fun _ => rfl
theorem g5_71 : rg Z d rx_m5 71 L S (rz_mk h ι, w) = rg Z d rx_m5 75 L S (rz_mk h ι, w) := rz_s1 fun _ => rfl
theorem g5_74 : rg Z d rx_m5 74 L S (rz_mk h ι, w) = rg Z d rx_m5 75 L (.int 0 :: S) (rz_mk h ι, w) := rz_s1 fun _ => rfl
theorem g5_75 (c : narrow .boolean (.int x) = .int x) : rg Z d rx_m5 75 L [.int x] (rz_mk h ι, w) = some (.inl (some (.int x)), (rz_mk h ι, w)) := rz_reti rfl rfl c
theorem e5 : rz_f Z (d + 1) 5 [.ref t0, .ref t1] σ = rg Z d rx_m5 0 [some (.ref t0), some (.ref t1), none] [] σ := rz_f_eq rfl (Nat.le_of_ble_eq_true rfl)
theorem g6_0 : rg Z d rx_m6 0 [some (.ref a)] S (rz_mk h ι, w) = rg Z d rx_m6 1 [some (.ref a)] (.ref a :: S) (rz_mk h ι, w) := rz_s1 fun _ => rfl
theorem g6_1 : rg Z d rx_m6 1 L (.ref a :: []) (rz_mk h ι, w) = rg Z d rx_m6 4 L [] (rz_mk h ι, w) := rz_oi rfl (Nat.le_of_ble_eq_true rfl)
theorem g6_4 : rg Z d rx_m6 4 [some (.ref a)] S (rz_mk h ι, w) = rg Z d rx_m6 5 [some (.ref a)] (.ref a :: S) (rz_mk h ι, w) := rz_s1 fun _ => rfl
theorem g6_5 : rg Z d rx_m6 5 L S (rz_mk h ι, w) = rg Z d rx_m6 6 L (.int 0 :: S) (rz_mk h ι, w) := rz_s1 fun _ => rfl
theorem g6_6 (c : rz_fI h a 1 0) (hz : Z.2.1 ≤ a) : rg Z d rx_m6 6 L (.int x :: .ref a :: S) (rz_mk h ι, w) = rg Z d rx_m6 9 L S (rz_mk h (rz_up ι a 0 x), w) := rz_pI rfl c hz
theorem g6_9 : rg Z d rx_m6 9 L [] (rz_mk h ι, w) = some (.inl none, (rz_mk h ι, w)) := rz_r1 fun _ => rfl
theorem e6 : rz_f Z (d + 1) 6 [.ref t0] σ = rg Z d rx_m6 0 [some (.ref t0)] [] σ := rz_f_eq rfl (Nat.le_of_ble_eq_true rfl)
theorem g7_0 : rg Z d rx_m7 0 [some (.ref a), l1, l2, l3, l4, l5, l6, l7, l8] S (rz_mk h ι, w) = rg Z d rx_m7 1 [some (.ref a), l1, l2, l3, l4, l5, l6, l7, l8] (.ref a :: S) (rz_mk h ι, w) := rz_s1 fun _ => rfl
theorem g7_1 : rg Z d rx_m7 1 [l0, l1, l2, some (.int x), l4, l5, l6, l7, l8] S (rz_mk h ι, w) = rg Z d rx_m7 2 [l0, l1, l2, some (.int x), l4, l5, l6, l7, l8] (.int x :: S) (rz_mk h ι, w) := rz_s1 fun _ => rfl
theorem g7_2 (c : rz_fI h a 1 0) (hz : Z.2.1 ≤ a) : rg Z d rx_m7 2 L (.int x :: .ref a :: S) (rz_mk h ι, w) = rg Z d rx_m7 5 L S (rz_mk h (rz_up ι a 0 x), w) := rz_pI rfl c hz
theorem g7_5 : rg Z d rx_m7 5 L S (rz_mk h ι, w) = rg Z d rx_m7 6 L (.int 0 :: S) (rz_mk h ι, w) := rz_s1 fun _ => rfl
theorem g7_6 : rg Z d rx_m7 6 [l0, l1, l2, l3, l4, some (.int z), l6, l7, l8] (.int x :: S) (rz_mk h ι, w) = rg Z d rx_m7 8 [l0, l1, l2, l3, l4, some (.int z), some (.int x), l7, l8] S (rz_mk h ι, w) := rz_s1 fun _ => rfl
theorem g7_8 : rg Z d rx_m7 8 [l0, l1, l2, l3, l4, l5, some (.int x), l7, l8] S (rz_mk h ι, w) = rg Z d rx_m7 10 [l0, l1, l2, l3, l4, l5, some (.int x), l7, l8] (.int x :: S) (rz_mk h ι, w) := rz_s1 fun _ => rfl
theorem g7_10 : rg Z d rx_m7 10 [l0, l1, l2, l3, some (.int x), l5, l6, l7, l8] S (rz_mk h ι, w) = rg Z d rx_m7 12 [l0, l1, l2, l3, some (.int x), l5, l6, l7, l8] (.int x :: S) (rz_mk h ι, w) := rz_s1 fun _ => rfl
theorem g7_12 : rg Z d rx_m7 12 L (.int y :: .int x :: S) (rz_mk h ι, w) = if x < y then rg Z d rx_m7 15 L S (rz_mk h ι, w) else rg Z d rx_m7 73 L S (rz_mk h ι, w) := rz_if2 (pc := 12) (t := 73) (off := 61) (cc := .ge) (by decide) rfl
theorem g7_15 : rg Z d rx_m7 15 [some (.ref a), l1, l2, l3, l4, l5, l6, l7, l8] S (rz_mk h ι, w) = rg Z d rx_m7 16 [some (.ref a), l1, l2, l3, l4, l5, l6, l7, l8] (.ref a :: S) (rz_mk h ι, w) := rz_s1 fun _ => rfl
theorem g7_16 : rg Z d rx_m7 16 L S (rz_mk h ι, w) = rg Z d rx_m7 18 L (.int 8 :: S) (rz_mk h ι, w) := rz_s1 fun _ => rfl
theorem g7_18 (c : rz_oc h a 1) : rg Z d rx_m7 18 L (v1 :: .ref a :: []) (rz_mk h ι, w) = rz_k true (rz_f Z d 8 [.ref a, v1] (rz_mk h ι, w)) (fun v σ' => rg Z d rx_m7 21 L (v.toList ++ []) σ') := rz_cv (pc := 18) (n := 1) (mi := 8) (S := v1 :: .ref a :: []) (rest := []) rfl rfl (Nat.le_of_ble_eq_true rfl) (Nat.le_of_ble_eq_true rfl) c
theorem g7_21 : rg Z d rx_m7 21 [l0, l1, l2, l3, l4, l5, some (.int z), l7, l8] (.int x :: S) (rz_mk h ι, w) = rg Z d rx_m7 23 [l0, l1, l2, l3, l4, l5, some (.int z), some (.int x), l8] S (rz_mk h ι, w) := rz_s1 fun _ => rfl
theorem g7_23 : rg Z d rx_m7 23 [some (.ref a), l1, l2, l3, l4, l5, l6, l7, l8] S (rz_mk h ι, w) = rg Z d rx_m7 24 [some (.ref a), l1, l2, l3, l4, l5, l6, l7, l8] (.ref a :: S) (rz_mk h ι, w) := rz_s1 fun _ => rfl
theorem g7_24 : rg Z d rx_m7 24 L S (rz_mk h ι, w) = rg Z d rx_m7 26 L (.int 8 :: S) (rz_mk h ι, w) := rz_s1 fun _ => rfl
theorem g7_26 (c : rz_oc h a 1) : rg Z d rx_m7 26 L (v1 :: .ref a :: []) (rz_mk h ι, w) = rz_k true (rz_f Z d 8 [.ref a, v1] (rz_mk h ι, w)) (fun v σ' => rg Z d rx_m7 29 L (v.toList ++ []) σ') := rz_cv (pc := 26) (n := 1) (mi := 8) (S := v1 :: .ref a :: []) (rest := []) rfl rfl (Nat.le_of_ble_eq_true rfl) (Nat.le_of_ble_eq_true rfl) c
theorem g7_29 : rg Z d rx_m7 29 [l0, l1, l2, l3, l4, l5, l6, some (.int z), l8] (.int x :: S) (rz_mk h ι, w) = rg Z d rx_m7 31 [l0, l1, l2, l3, l4, l5, l6, some (.int z), some (.int x)] S (rz_mk h ι, w) := rz_s1 fun _ => rfl
theorem g7_31 : rg Z d rx_m7 31 [l0, some (.ref a), l2, l3, l4, l5, l6, l7, l8] S (rz_mk h ι, w) = rg Z d rx_m7 32 [l0, some (.ref a), l2, l3, l4, l5, l6, l7, l8] (.ref a :: S) (rz_mk h ι, w) := rz_s1 fun _ => rfl
theorem g7_32 : rg Z d rx_m7 32 [l0, l1, l2, l3, l4, l5, l6, some (.int x), l8] S (rz_mk h ι, w) = rg Z d rx_m7 34 [l0, l1, l2, l3, l4, l5, l6, some (.int x), l8] (.int x :: S) (rz_mk h ι, w) := rz_s1 fun _ => rfl
theorem g7_34 : rg Z d rx_m7 34 [l0, l1, l2, l3, l4, l5, l6, l7, some (.int x)] S (rz_mk h ι, w) = rg Z d rx_m7 36 [l0, l1, l2, l3, l4, l5, l6, l7, some (.int x)] (.int x :: S) (rz_mk h ι, w) := rz_s1 fun _ => rfl
theorem g7_36 (c : rz_oc h a 8) : rg Z d rx_m7 36 L (v2 :: v1 :: .ref a :: []) (rz_mk h ι, w) = rz_k true (rz_f Z d 83 [.ref a, v1, v2] (rz_mk h ι, w)) (fun v σ' => rg Z d rx_m7 39 L (v.toList ++ []) σ') := rz_cv (pc := 36) (n := 2) (mi := 83) (S := v2 :: v1 :: .ref a :: []) (rest := []) rfl rfl (Nat.le_of_ble_eq_true rfl) (Nat.le_of_ble_eq_true rfl) c
theorem g7_39 : rg Z d rx_m7 39 L (.int x :: S) (rz_mk h ι, w) = rg Z d rx_m7 40 L S (rz_mk h ι, w) := rz_s1 fun _ => rfl
theorem g7_40 : rg Z d rx_m7 40 [some (.ref a), l1, l2, l3, l4, l5, l6, l7, l8] S (rz_mk h ι, w) = rg Z d rx_m7 41 [some (.ref a), l1, l2, l3, l4, l5, l6, l7, l8] (.ref a :: S) (rz_mk h ι, w) := rz_s1 fun _ => rfl
theorem g7_41 : rg Z d rx_m7 41 L S (rz_mk h ι, w) = rg Z d rx_m7 43 L (.int 16 :: S) (rz_mk h ι, w) := rz_s1 fun _ => rfl
theorem g7_43 (c : rz_oc h a 1) : rg Z d rx_m7 43 L (v1 :: .ref a :: []) (rz_mk h ι, w) = rz_k true (rz_f Z d 8 [.ref a, v1] (rz_mk h ι, w)) (fun v σ' => rg Z d rx_m7 46 L (v.toList ++ []) σ') := rz_cv (pc := 43) (n := 1) (mi := 8) (S := v1 :: .ref a :: []) (rest := []) rfl rfl (Nat.le_of_ble_eq_true rfl) (Nat.le_of_ble_eq_true rfl) c
theorem g7_46 : rg Z d rx_m7 46 [l0, l1, l2, l3, l4, some (.int x), l6, l7, l8] S (rz_mk h ι, w) = rg Z d rx_m7 48 [l0, l1, l2, l3, l4, some (.int x), l6, l7, l8] (.int x :: S) (rz_mk h ι, w) := rz_s1 fun _ => rfl
theorem g7_48 : rg Z d rx_m7 48 L (.int y :: .int x :: S) (rz_mk h ι, w) = if x < y then rg Z d rx_m7 51 L S (rz_mk h ι, w) else rg Z d rx_m7 63 L S (rz_mk h ι, w) := rz_if2 (pc := 48) (t := 63) (off := 15) (cc := .ge) (by decide) rfl
theorem g7_51 : rg Z d rx_m7 51 [l0, some (.ref a), l2, l3, l4, l5, l6, l7, l8] S (rz_mk h ι, w) = rg Z d rx_m7 52 [l0, some (.ref a), l2, l3, l4, l5, l6, l7, l8] (.ref a :: S) (rz_mk h ι, w) := rz_s1 fun _ => rfl
theorem g7_52 : rg Z d rx_m7 52 [some (.ref a), l1, l2, l3, l4, l5, l6, l7, l8] S (rz_mk h ι, w) = rg Z d rx_m7 53 [some (.ref a), l1, l2, l3, l4, l5, l6, l7, l8] (.ref a :: S) (rz_mk h ι, w) := rz_s1 fun _ => rfl
theorem g7_53 : rg Z d rx_m7 53 L S (rz_mk h ι, w) = rg Z d rx_m7 55 L (.int 8 :: S) (rz_mk h ι, w) := rz_s1 fun _ => rfl
theorem g7_55 (c : rz_oc h a 1) : rg Z d rx_m7 55 L (v1 :: .ref a :: [.ref t0]) (rz_mk h ι, w) = rz_k true (rz_f Z d 8 [.ref a, v1] (rz_mk h ι, w)) (fun v σ' => rg Z d rx_m7 58 L (v.toList ++ [.ref t0]) σ') := rz_cv (pc := 55) (n := 1) (mi := 8) (S := v1 :: .ref a :: [.ref t0]) (rest := [.ref t0]) rfl rfl (Nat.le_of_ble_eq_true rfl) (Nat.le_of_ble_eq_true rfl) c
theorem g7_58 : rg Z d rx_m7 58 [l0, l1, some (.ref a), l3, l4, l5, l6, l7, l8] S (rz_mk h ι, w) = rg Z d rx_m7 59 [l0, l1, some (.ref a), l3, l4, l5, l6, l7, l8] (.ref a :: S) (rz_mk h ι, w) := rz_s1 fun _ => rfl
theorem g7_59 (c : rz_oc h a 8) : rg Z d rx_m7 59 L (v2 :: v1 :: .ref a :: []) (rz_mk h ι, w) = rz_k true (rz_f Z d 84 [.ref a, v1, v2] (rz_mk h ι, w)) (fun v σ' => rg Z d rx_m7 62 L (v.toList ++ []) σ') := rz_cv (pc := 59) (n := 2) (mi := 84) (S := v2 :: v1 :: .ref a :: []) (rest := []) rfl rfl (Nat.le_of_ble_eq_true rfl) (Nat.le_of_ble_eq_true rfl) c
theorem g7_62 : rg Z d rx_m7 62 L (.int x :: S) (rz_mk h ι, w) = rg Z d rx_m7 63 L S (rz_mk h ι, w) := rz_s1 fun _ => rfl
theorem g7_63 : rg Z d rx_m7 63 [l0, some (.ref a), l2, l3, l4, l5, l6, l7, l8] S (rz_mk h ι, w) = rg Z d rx_m7 64 [l0, some (.ref a), l2, l3, l4, l5, l6, l7, l8] (.ref a :: S) (rz_mk h ι, w) := rz_s1 fun _ => rfl
theorem g7_64 (c : rz_oc h a 8) : rg Z d rx_m7 64 L (.ref a :: []) (rz_mk h ι, w) = rz_k true (rz_f Z d 86 [.ref a] (rz_mk h ι, w)) (fun v σ' => rg Z d rx_m7 67 L (v.toList ++ []) σ') := rz_cv (pc := 64) (n := 0) (mi := 86) (S := .ref a :: []) (rest := []) rfl rfl (Nat.le_of_ble_eq_true rfl) (Nat.le_of_ble_eq_true rfl) c
theorem g7_67 : rg Z d rx_m7 67 [l0, l1, l2, l3, l4, some (.int z), some (.int x), l7, l8] S (rz_mk h ι, w) = rg Z d rx_m7 70 [l0, l1, l2, l3, l4, some (.int z), some (.int (x + 1)), l7, l8] S (rz_mk h ι, w) := rz_s1 fun _ => rfl
theorem g7_70 : rg Z d rx_m7 70 L S (rz_mk h ι, w) = rg Z d rx_m7 8 L S (rz_mk h ι, w) := rz_s1 fun _ => rfl
theorem g7_73 : rg Z d rx_m7 73 L [] (rz_mk h ι, w) = some (.inl none, (rz_mk h ι, w)) := rz_r1 fun _ => rfl
theorem e7 : rz_f Z (d + 1) 7 [.ref t0, .ref t1, .ref t2, .int s3, .int s4, .int s5] σ = rg Z d rx_m7 0 [some (.ref t0), some (.ref t1), some (.ref t2), some (.int s3), some (.int s4), some (.int s5), none, none, none] [] σ := rz_f_eq rfl (Nat.le_of_ble_eq_true rfl)
theorem g8_0 : rg Z d rx_m8 0 [some (.ref a), l1] S (rz_mk h ι, w) = rg Z d rx_m8 1 [some (.ref a), l1] (.ref a :: S) (rz_mk h ι, w) := rz_s1 fun _ => rfl
theorem g8_1 : rg Z d rx_m8 1 [some (.ref a), l1] S (rz_mk h ι, w) = rg Z d rx_m8 2 [some (.ref a), l1] (.ref a :: S) (rz_mk h ι, w) := rz_s1 fun _ => rfl
theorem g8_2 (c : rz_fI h a 1 0) : rg Z d rx_m8 2 L (.ref a :: S) (rz_mk h ι, w) = rg Z d rx_m8 5 L (.int (ι a 0) :: S) (rz_mk h ι, w) := rz_gI rfl (by decide) c
theorem g8_5 : rg Z d rx_m8 5 L S (rz_mk h ι, w) = rg Z d rx_m8 7 L (.int 1103515245 :: S) (rz_mk h ι, w) := rz_s1 fun _ => rfl
theorem g8_7 : rg Z d rx_m8 7 L (.int y :: .int x :: S) (rz_mk h ι, w) = rg Z d rx_m8 8 L (.int (x * y) :: S) (rz_mk h ι, w) := rz_s1 fun _ => rfl
theorem g8_8 : rg Z d rx_m8 8 L S (rz_mk h ι, w) = rg Z d rx_m8 11 L (.int 12345 :: S) (rz_mk h ι, w) := rz_s1 fun _ => rfl
theorem g8_11 : rg Z d rx_m8 11 L (.int y :: .int x :: S) (rz_mk h ι, w) = rg Z d rx_m8 12 L (.int (x + y) :: S) (rz_mk h ι, w) := rz_s1 fun _ => rfl
theorem g8_12 (c : rz_fI h a 1 0) (hz : Z.2.1 ≤ a) : rg Z d rx_m8 12 L (.int x :: .ref a :: S) (rz_mk h ι, w) = rg Z d rx_m8 15 L S (rz_mk h (rz_up ι a 0 x), w) := rz_pI rfl c hz
theorem g8_15 : rg Z d rx_m8 15 [some (.ref a), l1] S (rz_mk h ι, w) = rg Z d rx_m8 16 [some (.ref a), l1] (.ref a :: S) (rz_mk h ι, w) := rz_s1 fun _ => rfl
theorem g8_16 (c : rz_fI h a 1 0) : rg Z d rx_m8 16 L (.ref a :: S) (rz_mk h ι, w) = rg Z d rx_m8 19 L (.int (ι a 0) :: S) (rz_mk h ι, w) := rz_gI rfl (by decide) c
theorem g8_19 : rg Z d rx_m8 19 L S (rz_mk h ι, w) = rg Z d rx_m8 21 L (.int 16 :: S) (rz_mk h ι, w) := rz_s1 fun _ => rfl
theorem g8_21 : rg Z d rx_m8 21 L (.int y :: .int x :: S) (rz_mk h ι, w) = rg Z d rx_m8 22 L (.int ((x.toUInt32 >>> (y.toUInt32 &&& Int32.toUInt32 31)).toInt32) :: S) (rz_mk h ι, w) := rz_s1 fun _ => rfl
theorem g8_22 : rg Z d rx_m8 22 L S (rz_mk h ι, w) = rg Z d rx_m8 25 L (.int 32767 :: S) (rz_mk h ι, w) := rz_s1 fun _ => rfl
theorem g8_25 : rg Z d rx_m8 25 L (.int y :: .int x :: S) (rz_mk h ι, w) = rg Z d rx_m8 26 L (.int (x &&& y) :: S) (rz_mk h ι, w) := rz_s1 fun _ => rfl
theorem g8_26 : rg Z d rx_m8 26 [l0, some (.int x)] S (rz_mk h ι, w) = rg Z d rx_m8 27 [l0, some (.int x)] (.int x :: S) (rz_mk h ι, w) := rz_s1 fun _ => rfl
theorem g8_27 : rg Z d rx_m8 27 L S (rz_mk h ι, w) = rg Z d rx_m8 28 L (.int 1 :: S) (rz_mk h ι, w) := rz_s1 fun _ => rfl
theorem g8_28 : rg Z d rx_m8 28 L (.int y :: .int x :: S) (rz_mk h ι, w) = rg Z d rx_m8 29 L (.int (x - y) :: S) (rz_mk h ι, w) := rz_s1 fun _ => rfl
theorem g8_29 : rg Z d rx_m8 29 L (.int y :: .int x :: S) (rz_mk h ι, w) = rg Z d rx_m8 30 L (.int (x &&& y) :: S) (rz_mk h ι, w) := rz_s1 fun _ => rfl
theorem g8_30 : rg Z d rx_m8 30 L [.int x] (rz_mk h ι, w) = some (.inl (some (.int x)), (rz_mk h ι, w)) := rz_reti rfl rfl rfl
theorem e8 : rz_f Z (d + 1) 8 [.ref t0, .int s1] σ = rg Z d rx_m8 0 [some (.ref t0), some (.int s1)] [] σ := rz_f_eq rfl (Nat.le_of_ble_eq_true rfl)
theorem g9_0 : rg Z d rx_m9 0 [some (.ref a)] S (rz_mk h ι, w) = rg Z d rx_m9 1 [some (.ref a)] (.ref a :: S) (rz_mk h ι, w) := rz_s1 fun _ => rfl
theorem g9_1 : rg Z d rx_m9 1 L (.ref a :: []) (rz_mk h ι, w) = rg Z d rx_m9 4 L [] (rz_mk h ι, w) := rz_oi rfl (Nat.le_of_ble_eq_true rfl)
theorem g9_4 : rg Z d rx_m9 4 [some (.ref a)] S (rz_mk h ι, w) = rg Z d rx_m9 5 [some (.ref a)] (.ref a :: S) (rz_mk h ι, w) := rz_s1 fun _ => rfl
theorem g9_5 : rg Z d rx_m9 5 L S (rz_mk h ι, w) = rg Z d rx_m9 7 L (.int 64 :: S) (rz_mk h ι, w) := rz_s1 fun _ => rfl
theorem g9_7 : rg Z d rx_m9 7 L (.int 64 :: S) (rz_mk h ι, w) = rg Z d rx_m9 9 L (.ref w.1 :: S) (rz_mk (rx_up h w.1 (.inl (0, 64, fun _ => .int 0))) (rz_z ι w.1), w.1 + 1, w.2 + 64) := rz_nwa rfl (by decide) (by decide)
theorem g9_9 (c : rz_fR h a 2 0) (hv : rz_isr v = true) (hz : Z.2.1 ≤ a) : rg Z d rx_m9 9 L (v :: .ref a :: S) (rz_mk h ι, w) = rg Z d rx_m9 12 L S (rz_mk (rz_hs h a 0 v) ι, w) := rz_pR rfl c hv hz
theorem g9_12 : rg Z d rx_m9 12 [some (.ref a)] S (rz_mk h ι, w) = rg Z d rx_m9 13 [some (.ref a)] (.ref a :: S) (rz_mk h ι, w) := rz_s1 fun _ => rfl
theorem g9_13 : rg Z d rx_m9 13 L S (rz_mk h ι, w) = rg Z d rx_m9 16 L (.int 2048 :: S) (rz_mk h ι, w) := rz_s1 fun _ => rfl
theorem g9_16 : rg Z d rx_m9 16 L (.int 2048 :: S) (rz_mk h ι, w) = rg Z d rx_m9 18 L (.ref w.1 :: S) (rz_mk (rx_up h w.1 (.inl (0, 2048, fun _ => .int 0))) (rz_z ι w.1), w.1 + 1, w.2 + 2048) := rz_nwa rfl (by decide) (by decide)
theorem g9_18 (c : rz_fR h a 2 1) (hv : rz_isr v = true) (hz : Z.2.1 ≤ a) : rg Z d rx_m9 18 L (v :: .ref a :: S) (rz_mk h ι, w) = rg Z d rx_m9 21 L S (rz_mk (rz_hs h a 1 v) ι, w) := rz_pR rfl c hv hz
theorem g9_21 : rg Z d rx_m9 21 [some (.ref a)] S (rz_mk h ι, w) = rg Z d rx_m9 22 [some (.ref a)] (.ref a :: S) (rz_mk h ι, w) := rz_s1 fun _ => rfl
theorem g9_22 : rg Z d rx_m9 22 L S (rz_mk h ι, w) = rg Z d rx_m9 24 L (.int 8 :: S) (rz_mk h ι, w) := rz_s1 fun _ => rfl
theorem g9_24 : rg Z d rx_m9 24 L (.int 8 :: S) (rz_mk h ι, w) = rg Z d rx_m9 26 L (.ref w.1 :: S) (rz_mk (rx_up h w.1 (.inl (0, 8, fun _ => .int 0))) (rz_z ι w.1), w.1 + 1, w.2 + 8) := rz_nwa rfl (by decide) (by decide)
theorem g9_26 (c : rz_fR h a 2 2) (hv : rz_isr v = true) (hz : Z.2.1 ≤ a) : rg Z d rx_m9 26 L (v :: .ref a :: S) (rz_mk h ι, w) = rg Z d rx_m9 29 L S (rz_mk (rz_hs h a 2 v) ι, w) := rz_pR rfl c hv hz
theorem g9_29 : rg Z d rx_m9 29 [some (.ref a)] S (rz_mk h ι, w) = rg Z d rx_m9 30 [some (.ref a)] (.ref a :: S) (rz_mk h ι, w) := rz_s1 fun _ => rfl
theorem g9_30 : rg Z d rx_m9 30 L S (rz_mk h ι, w) = rg Z d rx_m9 32 L (.int 8 :: S) (rz_mk h ι, w) := rz_s1 fun _ => rfl
theorem g9_32 : rg Z d rx_m9 32 L (.int 8 :: S) (rz_mk h ι, w) = rg Z d rx_m9 34 L (.ref w.1 :: S) (rz_mk (rx_up h w.1 (.inl (0, 8, fun _ => .int 0))) (rz_z ι w.1), w.1 + 1, w.2 + 8) := rz_nwa rfl (by decide) (by decide)
theorem g9_34 (c : rz_fR h a 2 3) (hv : rz_isr v = true) (hz : Z.2.1 ≤ a) : rg Z d rx_m9 34 L (v :: .ref a :: S) (rz_mk h ι, w) = rg Z d rx_m9 37 L S (rz_mk (rz_hs h a 3 v) ι, w) := rz_pR rfl c hv hz
theorem g9_37 : rg Z d rx_m9 37 [some (.ref a)] S (rz_mk h ι, w) = rg Z d rx_m9 38 [some (.ref a)] (.ref a :: S) (rz_mk h ι, w) := rz_s1 fun _ => rfl
theorem g9_38 : rg Z d rx_m9 38 L S (rz_mk h ι, w) = rg Z d rx_m9 40 L (.int 8 :: S) (rz_mk h ι, w) := rz_s1 fun _ => rfl
theorem g9_40 : rg Z d rx_m9 40 L (.int 8 :: S) (rz_mk h ι, w) = rg Z d rx_m9 42 L (.ref w.1 :: S) (rz_mk (rx_up h w.1 (.inl (0, 8, fun _ => .int 0))) (rz_z ι w.1), w.1 + 1, w.2 + 8) := rz_nwa rfl (by decide) (by decide)
theorem g9_42 (c : rz_fR h a 2 4) (hv : rz_isr v = true) (hz : Z.2.1 ≤ a) : rg Z d rx_m9 42 L (v :: .ref a :: S) (rz_mk h ι, w) = rg Z d rx_m9 45 L S (rz_mk (rz_hs h a 4 v) ι, w) := rz_pR rfl c hv hz
theorem g9_45 : rg Z d rx_m9 45 [some (.ref a)] S (rz_mk h ι, w) = rg Z d rx_m9 46 [some (.ref a)] (.ref a :: S) (rz_mk h ι, w) := rz_s1 fun _ => rfl
theorem g9_46 : rg Z d rx_m9 46 L S (rz_mk h ι, w) = rg Z d rx_m9 48 L (.int 8 :: S) (rz_mk h ι, w) := rz_s1 fun _ => rfl
theorem g9_48 : rg Z d rx_m9 48 L (.int 8 :: S) (rz_mk h ι, w) = rg Z d rx_m9 50 L (.ref w.1 :: S) (rz_mk (rx_up h w.1 (.inl (0, 8, fun _ => .int 0))) (rz_z ι w.1), w.1 + 1, w.2 + 8) := rz_nwa rfl (by decide) (by decide)
theorem g9_50 (c : rz_fR h a 2 5) (hv : rz_isr v = true) (hz : Z.2.1 ≤ a) : rg Z d rx_m9 50 L (v :: .ref a :: S) (rz_mk h ι, w) = rg Z d rx_m9 53 L S (rz_mk (rz_hs h a 5 v) ι, w) := rz_pR rfl c hv hz
theorem g9_53 : rg Z d rx_m9 53 L [] (rz_mk h ι, w) = some (.inl none, (rz_mk h ι, w)) := rz_r1 fun _ => rfl
theorem e9 : rz_f Z (d + 1) 9 [.ref t0] σ = rg Z d rx_m9 0 [some (.ref t0)] [] σ := rz_f_eq rfl (Nat.le_of_ble_eq_true rfl)
theorem g10_0 : rg Z d rx_m10 0 L S (rz_mk h ι, w) = rg Z d rx_m10 1 L (.int 0 :: S) (rz_mk h ι, w) := rz_s1 fun _ => rfl
theorem g10_1 : rg Z d rx_m10 1 [l0, l1, some (.ref b), l3, l4, l5] (.int x :: S) (rz_mk h ι, w) = rg Z d rx_m10 2 [l0, l1, some (.ref b), some (.int x), l4, l5] S (rz_mk h ι, w) := rz_s1 fun _ => rfl
theorem g10_2 : rg Z d rx_m10 2 [l0, l1, l2, some (.int x), l4, l5] S (rz_mk h ι, w) = rg Z d rx_m10 3 [l0, l1, l2, some (.int x), l4, l5] (.int x :: S) (rz_mk h ι, w) := rz_s1 fun _ => rfl
theorem g10_3 : rg Z d rx_m10 3 L S (rz_mk h ι, w) = rg Z d rx_m10 5 L (.int 8 :: S) (rz_mk h ι, w) := rz_s1 fun _ => rfl
theorem g10_5 : rg Z d rx_m10 5 L (.int y :: .int x :: S) (rz_mk h ι, w) = if x < y then rg Z d rx_m10 8 L S (rz_mk h ι, w) else rg Z d rx_m10 89 L S (rz_mk h ι, w) := rz_if2 (pc := 5) (t := 89) (off := 84) (cc := .ge) (by decide) rfl
theorem g10_8 : rg Z d rx_m10 8 L S (rz_mk h ι, w) = rg Z d rx_m10 9 L (.int 0 :: S) (rz_mk h ι, w) := rz_s1 fun _ => rfl
theorem g10_9 : rg Z d rx_m10 9 [l0, l1, l2, some (.int z), l4, l5] (.int x :: S) (rz_mk h ι, w) = rg Z d rx_m10 11 [l0, l1, l2, some (.int z), some (.int x), l5] S (rz_mk h ι, w) := rz_s1 fun _ => rfl
theorem g10_11 : rg Z d rx_m10 11 [l0, l1, l2, l3, some (.int x), l5] S (rz_mk h ι, w) = rg Z d rx_m10 13 [l0, l1, l2, l3, some (.int x), l5] (.int x :: S) (rz_mk h ι, w) := rz_s1 fun _ => rfl
theorem g10_13 : rg Z d rx_m10 13 L S (rz_mk h ι, w) = rg Z d rx_m10 15 L (.int 8 :: S) (rz_mk h ι, w) := rz_s1 fun _ => rfl
theorem g10_15 : rg Z d rx_m10 15 L (.int y :: .int x :: S) (rz_mk h ι, w) = if x < y then rg Z d rx_m10 18 L S (rz_mk h ι, w) else rg Z d rx_m10 83 L S (rz_mk h ι, w) := rz_if2 (pc := 15) (t := 83) (off := 68) (cc := .ge) (by decide) rfl
theorem g10_18 : rg Z d rx_m10 18 [l0, l1, l2, some (.int x), l4, l5] S (rz_mk h ι, w) = rg Z d rx_m10 19 [l0, l1, l2, some (.int x), l4, l5] (.int x :: S) (rz_mk h ι, w) := rz_s1 fun _ => rfl
theorem g10_19 : rg Z d rx_m10 19 [l0, l1, l2, l3, some (.int x), l5] S (rz_mk h ι, w) = rg Z d rx_m10 21 [l0, l1, l2, l3, some (.int x), l5] (.int x :: S) (rz_mk h ι, w) := rz_s1 fun _ => rfl
theorem g10_21 : rg Z d rx_m10 21 L (.int y :: .int x :: S) (rz_mk h ι, w) = if x = y then rg Z d rx_m10 45 L S (rz_mk h ι, w) else rg Z d rx_m10 24 L S (rz_mk h ι, w) := rz_if2 (pc := 21) (t := 45) (off := 24) (cc := .eq) (by decide) rfl
theorem g10_24 : rg Z d rx_m10 24 [l0, some (.ref a), l2, l3, l4, l5] S (rz_mk h ι, w) = rg Z d rx_m10 25 [l0, some (.ref a), l2, l3, l4, l5] (.ref a :: S) (rz_mk h ι, w) := rz_s1 fun _ => rfl
theorem g10_25 : rg Z d rx_m10 25 [l0, l1, l2, some (.int x), l4, l5] S (rz_mk h ι, w) = rg Z d rx_m10 26 [l0, l1, l2, some (.int x), l4, l5] (.int x :: S) (rz_mk h ι, w) := rz_s1 fun _ => rfl
theorem g10_26 (c : rz_oc h a 8) : rg Z d rx_m10 26 L (v1 :: .ref a :: []) (rz_mk h ι, w) = rz_k true (rz_f Z d 68 [.ref a, v1] (rz_mk h ι, w)) (fun v σ' => rg Z d rx_m10 29 L (v.toList ++ []) σ') := rz_cv (pc := 26) (n := 1) (mi := 68) (S := v1 :: .ref a :: []) (rest := []) rfl rfl (Nat.le_of_ble_eq_true rfl) (Nat.le_of_ble_eq_true rfl) c
theorem g10_29 : rg Z d rx_m10 29 L (.int x :: S) (rz_mk h ι, w) = if x = 0 then rg Z d rx_m10 45 L S (rz_mk h ι, w) else rg Z d rx_m10 32 L S (rz_mk h ι, w) := rz_if1 (pc := 29) (t := 45) (off := 16) (cc := .eq) (by decide) rfl
theorem g10_32 : rg Z d rx_m10 32 [l0, some (.ref a), l2, l3, l4, l5] S (rz_mk h ι, w) = rg Z d rx_m10 33 [l0, some (.ref a), l2, l3, l4, l5] (.ref a :: S) (rz_mk h ι, w) := rz_s1 fun _ => rfl
theorem g10_33 : rg Z d rx_m10 33 [l0, l1, l2, l3, some (.int x), l5] S (rz_mk h ι, w) = rg Z d rx_m10 35 [l0, l1, l2, l3, some (.int x), l5] (.int x :: S) (rz_mk h ι, w) := rz_s1 fun _ => rfl
theorem g10_35 (c : rz_oc h a 8) : rg Z d rx_m10 35 L (v1 :: .ref a :: []) (rz_mk h ι, w) = rz_k true (rz_f Z d 68 [.ref a, v1] (rz_mk h ι, w)) (fun v σ' => rg Z d rx_m10 38 L (v.toList ++ []) σ') := rz_cv (pc := 35) (n := 1) (mi := 68) (S := v1 :: .ref a :: []) (rest := []) rfl rfl (Nat.le_of_ble_eq_true rfl) (Nat.le_of_ble_eq_true rfl) c
theorem g10_38 : rg Z d rx_m10 38 L (.int x :: S) (rz_mk h ι, w) = if x = 0 then rg Z d rx_m10 45 L S (rz_mk h ι, w) else rg Z d rx_m10 41 L S (rz_mk h ι, w) := rz_if1 (pc := 38) (t := 45) (off := 7) (cc := .eq) (by decide) rfl
theorem g10_41 : rg Z d rx_m10 41 L S (rz_mk h ι, w) = rg Z d rx_m10 42 L (.int 1 :: S) (rz_mk h ι, w) := rz_s1 fun _ => rfl
theorem g10_42 : rg Z d rx_m10 42 L S (rz_mk h ι, w) = rg Z d rx_m10 46 L S (rz_mk h ι, w) := rz_s1 fun _ => rfl
theorem g10_45 : rg Z d rx_m10 45 L S (rz_mk h ι, w) = rg Z d rx_m10 46 L (.int 0 :: S) (rz_mk h ι, w) := rz_s1 fun _ => rfl
theorem g10_46 : rg Z d rx_m10 46 [l0, l1, l2, l3, some (.int z), l5] (.int x :: S) (rz_mk h ι, w) = rg Z d rx_m10 48 [l0, l1, l2, l3, some (.int z), some (.int x)] S (rz_mk h ι, w) := rz_s1 fun _ => rfl
theorem g10_48 : rg Z d rx_m10 48 [some (.ref a), l1, l2, l3, l4, l5] S (rz_mk h ι, w) = rg Z d rx_m10 49 [some (.ref a), l1, l2, l3, l4, l5] (.ref a :: S) (rz_mk h ι, w) := rz_s1 fun _ => rfl
theorem g10_49 (c : rz_fR h a 2 0) : rg Z d rx_m10 49 L (.ref a :: S) (rz_mk h ι, w) = rg Z d rx_m10 52 L (rz_rv h a 0 :: S) (rz_mk h ι, w) := rz_gR rfl (by decide) c
theorem g10_52 : rg Z d rx_m10 52 [l0, l1, l2, some (.int x), l4, l5] S (rz_mk h ι, w) = rg Z d rx_m10 53 [l0, l1, l2, some (.int x), l4, l5] (.int x :: S) (rz_mk h ι, w) := rz_s1 fun _ => rfl
theorem g10_53 : rg Z d rx_m10 53 L S (rz_mk h ι, w) = rg Z d rx_m10 55 L (.int 8 :: S) (rz_mk h ι, w) := rz_s1 fun _ => rfl
theorem g10_55 : rg Z d rx_m10 55 L (.int y :: .int x :: S) (rz_mk h ι, w) = rg Z d rx_m10 56 L (.int (x * y) :: S) (rz_mk h ι, w) := rz_s1 fun _ => rfl
theorem g10_56 : rg Z d rx_m10 56 [l0, l1, l2, l3, some (.int x), l5] S (rz_mk h ι, w) = rg Z d rx_m10 58 [l0, l1, l2, l3, some (.int x), l5] (.int x :: S) (rz_mk h ι, w) := rz_s1 fun _ => rfl
theorem g10_58 : rg Z d rx_m10 58 L (.int y :: .int x :: S) (rz_mk h ι, w) = rg Z d rx_m10 59 L (.int (x + y) :: S) (rz_mk h ι, w) := rz_s1 fun _ => rfl
theorem g10_59 : rg Z d rx_m10 59 [l0, l1, l2, l3, l4, some (.int x)] S (rz_mk h ι, w) = rg Z d rx_m10 61 [l0, l1, l2, l3, l4, some (.int x)] (.int x :: S) (rz_mk h ι, w) := rz_s1 fun _ => rfl
theorem g10_61 : rg Z d rx_m10 61 L (.int x :: S) (rz_mk h ι, w) = if x = 0 then rg Z d rx_m10 75 L S (rz_mk h ι, w) else rg Z d rx_m10 64 L S (rz_mk h ι, w) := rz_if1 (pc := 61) (t := 75) (off := 14) (cc := .eq) (by decide) rfl
theorem g10_64 : rg Z d rx_m10 64 [l0, l1, some (.ref a), l3, l4, l5] S (rz_mk h ι, w) = rg Z d rx_m10 65 [l0, l1, some (.ref a), l3, l4, l5] (.ref a :: S) (rz_mk h ι, w) := rz_s1 fun _ => rfl
theorem g10_65 : rg Z d rx_m10 65 [l0, some (.ref a), l2, l3, l4, l5] S (rz_mk h ι, w) = rg Z d rx_m10 66 [l0, some (.ref a), l2, l3, l4, l5] (.ref a :: S) (rz_mk h ι, w) := rz_s1 fun _ => rfl
theorem g10_66 : rg Z d rx_m10 66 [l0, l1, l2, some (.int x), l4, l5] S (rz_mk h ι, w) = rg Z d rx_m10 67 [l0, l1, l2, some (.int x), l4, l5] (.int x :: S) (rz_mk h ι, w) := rz_s1 fun _ => rfl
theorem g10_67 : rg Z d rx_m10 67 [l0, l1, l2, l3, some (.int x), l5] S (rz_mk h ι, w) = rg Z d rx_m10 69 [l0, l1, l2, l3, some (.int x), l5] (.int x :: S) (rz_mk h ι, w) := rz_s1 fun _ => rfl
theorem g10_69 (c : rz_oc h a 5) : rg Z d rx_m10 69 L (v3 :: v2 :: v1 :: .ref a :: [.int s0, .ref t1]) (rz_mk h ι, w) = rz_k true (rz_f Z d 48 [.ref a, v1, v2, v3] (rz_mk h ι, w)) (fun v σ' => rg Z d rx_m10 72 L (v.toList ++ [.int s0, .ref t1]) σ') := rz_cv (pc := 69) (n := 3) (mi := 48) (S := v3 :: v2 :: v1 :: .ref a :: [.int s0, .ref t1]) (rest := [.int s0, .ref t1]) rfl rfl (Nat.le_of_ble_eq_true rfl) (Nat.le_of_ble_eq_true rfl) c
theorem g10_72 : rg Z d rx_m10 72 L S (rz_mk h ι, w) = rg Z d rx_m10 76 L S (rz_mk h ι, w) := rz_s1 fun _ => rfl
theorem g10_75 : rg Z d rx_m10 75 L S (rz_mk h ι, w) = rg Z d rx_m10 76 L (.int 0 :: S) (rz_mk h ι, w) := rz_s1 fun _ => rfl
theorem g10_76 (c : rz_ar h a 0) (hi : rz_ix x (rz_ln h a)) (hz : Z.2.1 ≤ a) : rg Z d rx_m10 76 L (.int y :: .int x :: .ref a :: S) (rz_mk h ι, w) = rg Z d rx_m10 77 L S (rz_mk h (rz_up ι a x.toNatClampNeg y), w) := rz_iast rfl c hi hz
theorem g10_77 : rg Z d rx_m10 77 [l0, l1, l2, some (.int z), some (.int x), l5] S (rz_mk h ι, w) = rg Z d rx_m10 80 [l0, l1, l2, some (.int z), some (.int (x + 1)), l5] S (rz_mk h ι, w) := rz_s1 fun _ => rfl
theorem g10_80 : rg Z d rx_m10 80 L S (rz_mk h ι, w) = rg Z d rx_m10 11 L S (rz_mk h ι, w) := rz_s1 fun _ => rfl
theorem g10_83 : rg Z d rx_m10 83 [l0, l1, some (.ref b), some (.int x), l4, l5] S (rz_mk h ι, w) = rg Z d rx_m10 86 [l0, l1, some (.ref b), some (.int (x + 1)), l4, l5] S (rz_mk h ι, w) := rz_s1 fun _ => rfl
theorem g10_86 : rg Z d rx_m10 86 L S (rz_mk h ι, w) = rg Z d rx_m10 2 L S (rz_mk h ι, w) := rz_s1 fun _ => rfl
theorem g10_89 : rg Z d rx_m10 89 L [] (rz_mk h ι, w) = some (.inl none, (rz_mk h ι, w)) := rz_r1 fun _ => rfl
theorem e10 : rz_f Z (d + 1) 10 [.ref t0, .ref t1, .ref t2] σ = rg Z d rx_m10 0 [some (.ref t0), some (.ref t1), some (.ref t2), none, none, none] [] σ := rz_f_eq rfl (Nat.le_of_ble_eq_true rfl)
theorem g11_0 : rg Z d rx_m11 0 [l0, some (.ref a), l2, l3, l4, l5, l6] S (rz_mk h ι, w) = rg Z d rx_m11 1 [l0, some (.ref a), l2, l3, l4, l5, l6] (.ref a :: S) (rz_mk h ι, w) := rz_s1 fun _ => rfl
theorem g11_1 (c : rz_oc h a 8) : rg Z d rx_m11 1 L (.ref a :: []) (rz_mk h ι, w) = rz_k true (rz_f Z d 69 [.ref a] (rz_mk h ι, w)) (fun v σ' => rg Z d rx_m11 4 L (v.toList ++ []) σ') := rz_cv (pc := 1) (n := 0) (mi := 69) (S := .ref a :: []) (rest := []) rfl rfl (Nat.le_of_ble_eq_true rfl) (Nat.le_of_ble_eq_true rfl) c
theorem g11_4 : rg Z d rx_m11 4 L S (rz_mk h ι, w) = rg Z d rx_m11 5 L (.int 2 :: S) (rz_mk h ι, w) := rz_s1 fun _ => rfl
theorem g11_5 : rg Z d rx_m11 5 L (.int y :: .int x :: S) (rz_mk h ι, w) = if x < y then rg Z d rx_m11 8 L S (rz_mk h ι, w) else rg Z d rx_m11 10 L S (rz_mk h ι, w) := rz_if2 (pc := 5) (t := 10) (off := 5) (cc := .ge) (by decide) rfl
theorem g11_8 : rg Z d rx_m11 8 L S (rz_mk h ι, w) = rg Z d rx_m11 9 L (.int 0 :: S) (rz_mk h ι, w) := rz_s1 fun _ => rfl
theorem g11_9 : rg Z d rx_m11 9 L [.int x] (rz_mk h ι, w) = some (.inl (some (.int x)), (rz_mk h ι, w)) := rz_reti rfl rfl rfl
theorem g11_10 : rg Z d rx_m11 10 L S (rz_mk h ι, w) = rg Z d rx_m11 11 L (.int 0 :: S) (rz_mk h ι, w) := rz_s1 fun _ => rfl
theorem g11_11 : rg Z d rx_m11 11 [l0, l1, l2, l3, some (.int z), l5, l6] (.int x :: S) (rz_mk h ι, w) = rg Z d rx_m11 13 [l0, l1, l2, l3, some (.int z), some (.int x), l6] S (rz_mk h ι, w) := rz_s1 fun _ => rfl
theorem g11_13 : rg Z d rx_m11 13 [l0, l1, l2, l3, l4, some (.int x), l6] S (rz_mk h ι, w) = rg Z d rx_m11 15 [l0, l1, l2, l3, l4, some (.int x), l6] (.int x :: S) (rz_mk h ι, w) := rz_s1 fun _ => rfl
theorem g11_15 : rg Z d rx_m11 15 [some (.ref a), l1, l2, l3, l4, l5, l6] S (rz_mk h ι, w) = rg Z d rx_m11 16 [some (.ref a), l1, l2, l3, l4, l5, l6] (.ref a :: S) (rz_mk h ι, w) := rz_s1 fun _ => rfl
theorem g11_16 (c : rz_fR h a 2 3) : rg Z d rx_m11 16 L (.ref a :: S) (rz_mk h ι, w) = rg Z d rx_m11 19 L (rz_rv h a 3 :: S) (rz_mk h ι, w) := rz_gR rfl (by decide) c
theorem g11_19 (c : rz_ar h a 0) : rg Z d rx_m11 19 L (.ref a :: S) (rz_mk h ι, w) = rg Z d rx_m11 20 L (.int (Int32.ofNat (rz_ln h a)) :: S) (rz_mk h ι, w) := rz_alen (by decide) rfl c
theorem g11_20 : rg Z d rx_m11 20 L (.int y :: .int x :: S) (rz_mk h ι, w) = if x < y then rg Z d rx_m11 23 L S (rz_mk h ι, w) else rg Z d rx_m11 37 L S (rz_mk h ι, w) := rz_if2 (pc := 20) (t := 37) (off := 17) (cc := .ge) (by decide) rfl
theorem g11_23 : rg Z d rx_m11 23 [some (.ref a), l1, l2, l3, l4, l5, l6] S (rz_mk h ι, w) = rg Z d rx_m11 24 [some (.ref a), l1, l2, l3, l4, l5, l6] (.ref a :: S) (rz_mk h ι, w) := rz_s1 fun _ => rfl
theorem g11_24 (c : rz_fR h a 2 3) : rg Z d rx_m11 24 L (.ref a :: S) (rz_mk h ι, w) = rg Z d rx_m11 27 L (rz_rv h a 3 :: S) (rz_mk h ι, w) := rz_gR rfl (by decide) c
theorem g11_27 : rg Z d rx_m11 27 [l0, l1, l2, l3, l4, some (.int x), l6] S (rz_mk h ι, w) = rg Z d rx_m11 29 [l0, l1, l2, l3, l4, some (.int x), l6] (.int x :: S) (rz_mk h ι, w) := rz_s1 fun _ => rfl
theorem g11_29 : rg Z d rx_m11 29 L S (rz_mk h ι, w) = rg Z d rx_m11 30 L (.int (-1) :: S) (rz_mk h ι, w) := rz_s1 fun _ => rfl
theorem g11_30 (c : rz_ar h a 0) (hi : rz_ix x (rz_ln h a)) (hz : Z.2.1 ≤ a) : rg Z d rx_m11 30 L (.int y :: .int x :: .ref a :: S) (rz_mk h ι, w) = rg Z d rx_m11 31 L S (rz_mk h (rz_up ι a x.toNatClampNeg y), w) := rz_iast rfl c hi hz
theorem g11_31 : rg Z d rx_m11 31 [l0, l1, l2, l3, some (.int z), some (.int x), l6] S (rz_mk h ι, w) = rg Z d rx_m11 34 [l0, l1, l2, l3, some (.int z), some (.int (x + 1)), l6] S (rz_mk h ι, w) := rz_s1 fun _ => rfl
theorem g11_34 : rg Z d rx_m11 34 L S (rz_mk h ι, w) = rg Z d rx_m11 13 L S (rz_mk h ι, w) := rz_s1 fun _ => rfl
theorem g11_37 : rg Z d rx_m11 37 [l0, l1, l2, some (.int x), l4, l5, l6] S (rz_mk h ι, w) = rg Z d rx_m11 38 [l0, l1, l2, some (.int x), l4, l5, l6] (.int x :: S) (rz_mk h ι, w) := rz_s1 fun _ => rfl
theorem g11_38 : rg Z d rx_m11 38 [l0, l1, l2, l3, some (.int z), l5, l6] (.int x :: S) (rz_mk h ι, w) = rg Z d rx_m11 40 [l0, l1, l2, l3, some (.int z), some (.int x), l6] S (rz_mk h ι, w) := rz_s1 fun _ => rfl
theorem g11_40 : rg Z d rx_m11 40 L S (rz_mk h ι, w) = rg Z d rx_m11 41 L (.int 0 :: S) (rz_mk h ι, w) := rz_s1 fun _ => rfl
theorem g11_41 : rg Z d rx_m11 41 [l0, l1, l2, l3, l4, some (.int z), l6] (.int x :: S) (rz_mk h ι, w) = rg Z d rx_m11 43 [l0, l1, l2, l3, l4, some (.int z), some (.int x)] S (rz_mk h ι, w) := rz_s1 fun _ => rfl
theorem g11_43 : rg Z d rx_m11 43 [l0, l1, l2, l3, l4, l5, some (.int x)] S (rz_mk h ι, w) = rg Z d rx_m11 45 [l0, l1, l2, l3, l4, l5, some (.int x)] (.int x :: S) (rz_mk h ι, w) := rz_s1 fun _ => rfl
theorem g11_45 : rg Z d rx_m11 45 L S (rz_mk h ι, w) = rg Z d rx_m11 47 L (.int 8 :: S) (rz_mk h ι, w) := rz_s1 fun _ => rfl
theorem g11_47 : rg Z d rx_m11 47 L (.int y :: .int x :: S) (rz_mk h ι, w) = if y < x then rg Z d rx_m11 126 L S (rz_mk h ι, w) else rg Z d rx_m11 50 L S (rz_mk h ι, w) := rz_if2 (pc := 47) (t := 126) (off := 79) (cc := .gt) (by decide) rfl
theorem g11_50 : rg Z d rx_m11 50 [l0, l1, l2, l3, l4, some (.int x), l6] S (rz_mk h ι, w) = rg Z d rx_m11 52 [l0, l1, l2, l3, l4, some (.int x), l6] (.int x :: S) (rz_mk h ι, w) := rz_s1 fun _ => rfl
theorem g11_52 : rg Z d rx_m11 52 L (.int x :: S) (rz_mk h ι, w) = if x < 0 then rg Z d rx_m11 126 L S (rz_mk h ι, w) else rg Z d rx_m11 55 L S (rz_mk h ι, w) := rz_if1 (pc := 52) (t := 126) (off := 74) (cc := .lt) (by decide) rfl
theorem g11_55 : rg Z d rx_m11 55 [l0, l1, l2, l3, l4, some (.int x), l6] S (rz_mk h ι, w) = rg Z d rx_m11 57 [l0, l1, l2, l3, l4, some (.int x), l6] (.int x :: S) (rz_mk h ι, w) := rz_s1 fun _ => rfl
theorem g11_57 : rg Z d rx_m11 57 [some (.ref a), l1, l2, l3, l4, l5, l6] S (rz_mk h ι, w) = rg Z d rx_m11 58 [some (.ref a), l1, l2, l3, l4, l5, l6] (.ref a :: S) (rz_mk h ι, w) := rz_s1 fun _ => rfl
theorem g11_58 (c : rz_fR h a 2 3) : rg Z d rx_m11 58 L (.ref a :: S) (rz_mk h ι, w) = rg Z d rx_m11 61 L (rz_rv h a 3 :: S) (rz_mk h ι, w) := rz_gR rfl (by decide) c
theorem g11_61 (c : rz_ar h a 0) : rg Z d rx_m11 61 L (.ref a :: S) (rz_mk h ι, w) = rg Z d rx_m11 62 L (.int (Int32.ofNat (rz_ln h a)) :: S) (rz_mk h ι, w) := rz_alen (by decide) rfl c
theorem g11_62 : rg Z d rx_m11 62 L (.int y :: .int x :: S) (rz_mk h ι, w) = if x < y then rg Z d rx_m11 65 L S (rz_mk h ι, w) else rg Z d rx_m11 126 L S (rz_mk h ι, w) := rz_if2 (pc := 62) (t := 126) (off := 64) (cc := .ge) (by decide) rfl
theorem g11_65 : rg Z d rx_m11 65 [some (.ref a), l1, l2, l3, l4, l5, l6] S (rz_mk h ι, w) = rg Z d rx_m11 66 [some (.ref a), l1, l2, l3, l4, l5, l6] (.ref a :: S) (rz_mk h ι, w) := rz_s1 fun _ => rfl
theorem g11_66 (c : rz_fR h a 2 3) : rg Z d rx_m11 66 L (.ref a :: S) (rz_mk h ι, w) = rg Z d rx_m11 69 L (rz_rv h a 3 :: S) (rz_mk h ι, w) := rz_gR rfl (by decide) c
theorem g11_69 : rg Z d rx_m11 69 [l0, l1, l2, l3, l4, some (.int x), l6] S (rz_mk h ι, w) = rg Z d rx_m11 71 [l0, l1, l2, l3, l4, some (.int x), l6] (.int x :: S) (rz_mk h ι, w) := rz_s1 fun _ => rfl
theorem g11_71 (c : rz_ar h a 0) (hi : rz_ix x (rz_ln h a)) : rg Z d rx_m11 71 L (.int x :: .ref a :: S) (rz_mk h ι, w) = rg Z d rx_m11 72 L (.int (ι a x.toNatClampNeg) :: S) (rz_mk h ι, w) := rz_iald rfl c hi
theorem g11_72 : rg Z d rx_m11 72 L S (rz_mk h ι, w) = rg Z d rx_m11 73 L (.int (-1) :: S) (rz_mk h ι, w) := rz_s1 fun _ => rfl
theorem g11_73 : rg Z d rx_m11 73 L (.int y :: .int x :: S) (rz_mk h ι, w) = if x = y then rg Z d rx_m11 102 L S (rz_mk h ι, w) else rg Z d rx_m11 76 L S (rz_mk h ι, w) := rz_if2 (pc := 73) (t := 102) (off := 29) (cc := .eq) (by decide) rfl
theorem g11_76 : rg Z d rx_m11 76 [l0, l1, l2, l3, some (.int x), l5, l6] S (rz_mk h ι, w) = rg Z d rx_m11 78 [l0, l1, l2, l3, some (.int x), l5, l6] (.int x :: S) (rz_mk h ι, w) := rz_s1 fun _ => rfl
theorem g11_78 : rg Z d rx_m11 78 L (.int x :: S) (rz_mk h ι, w) = if x = 0 then rg Z d rx_m11 81 L S (rz_mk h ι, w) else rg Z d rx_m11 91 L S (rz_mk h ι, w) := rz_if1 (pc := 78) (t := 91) (off := 13) (cc := .ne) (by decide) rfl
theorem g11_81 : rg Z d rx_m11 81 [some (.ref a), l1, l2, l3, l4, l5, l6] S (rz_mk h ι, w) = rg Z d rx_m11 82 [some (.ref a), l1, l2, l3, l4, l5, l6] (.ref a :: S) (rz_mk h ι, w) := rz_s1 fun _ => rfl
theorem g11_82 (c : rz_fR h a 2 3) : rg Z d rx_m11 82 L (.ref a :: S) (rz_mk h ι, w) = rg Z d rx_m11 85 L (rz_rv h a 3 :: S) (rz_mk h ι, w) := rz_gR rfl (by decide) c
theorem g11_85 : rg Z d rx_m11 85 [l0, l1, l2, l3, l4, some (.int x), l6] S (rz_mk h ι, w) = rg Z d rx_m11 87 [l0, l1, l2, l3, l4, some (.int x), l6] (.int x :: S) (rz_mk h ι, w) := rz_s1 fun _ => rfl
theorem g11_87 (c : rz_ar h a 0) (hi : rz_ix x (rz_ln h a)) : rg Z d rx_m11 87 L (.int x :: .ref a :: S) (rz_mk h ι, w) = rg Z d rx_m11 88 L (.int (ι a x.toNatClampNeg) :: S) (rz_mk h ι, w) := rz_iald rfl c hi
theorem g11_88 : rg Z d rx_m11 88 L S (rz_mk h ι, w) = rg Z d rx_m11 101 L S (rz_mk h ι, w) := rz_s1 fun _ => rfl
theorem g11_91 : rg Z d rx_m11 91 [l0, l1, l2, l3, l4, l5, some (.int x)] S (rz_mk h ι, w) = rg Z d rx_m11 93 [l0, l1, l2, l3, l4, l5, some (.int x)] (.int x :: S) (rz_mk h ι, w) := rz_s1 fun _ => rfl
theorem g11_93 : rg Z d rx_m11 93 [some (.ref a), l1, l2, l3, l4, l5, l6] S (rz_mk h ι, w) = rg Z d rx_m11 94 [some (.ref a), l1, l2, l3, l4, l5, l6] (.ref a :: S) (rz_mk h ι, w) := rz_s1 fun _ => rfl
theorem g11_94 (c : rz_fR h a 2 3) : rg Z d rx_m11 94 L (.ref a :: S) (rz_mk h ι, w) = rg Z d rx_m11 97 L (rz_rv h a 3 :: S) (rz_mk h ι, w) := rz_gR rfl (by decide) c
theorem g11_97 : rg Z d rx_m11 97 [l0, l1, l2, l3, l4, some (.int x), l6] S (rz_mk h ι, w) = rg Z d rx_m11 99 [l0, l1, l2, l3, l4, some (.int x), l6] (.int x :: S) (rz_mk h ι, w) := rz_s1 fun _ => rfl
theorem g11_99 (c : rz_ar h a 0) (hi : rz_ix x (rz_ln h a)) : rg Z d rx_m11 99 L (.int x :: .ref a :: S) (rz_mk h ι, w) = rg Z d rx_m11 100 L (.int (ι a x.toNatClampNeg) :: S) (rz_mk h ι, w) := rz_iald rfl c hi
theorem g11_100 : rg Z d rx_m11 100 L (.int y :: .int x :: S) (rz_mk h ι, w) = rg Z d rx_m11 101 L (.int (x - y) :: S) (rz_mk h ι, w) := rz_s1 fun _ => rfl
theorem g11_101 : rg Z d rx_m11 101 L [.int x] (rz_mk h ι, w) = some (.inl (some (.int x)), (rz_mk h ι, w)) := rz_reti rfl rfl rfl
theorem g11_102 : rg Z d rx_m11 102 [some (.ref a), l1, l2, l3, l4, l5, l6] S (rz_mk h ι, w) = rg Z d rx_m11 103 [some (.ref a), l1, l2, l3, l4, l5, l6] (.ref a :: S) (rz_mk h ι, w) := rz_s1 fun _ => rfl
theorem g11_103 (c : rz_fR h a 2 3) : rg Z d rx_m11 103 L (.ref a :: S) (rz_mk h ι, w) = rg Z d rx_m11 106 L (rz_rv h a 3 :: S) (rz_mk h ι, w) := rz_gR rfl (by decide) c
theorem g11_106 : rg Z d rx_m11 106 [l0, l1, l2, l3, l4, some (.int x), l6] S (rz_mk h ι, w) = rg Z d rx_m11 108 [l0, l1, l2, l3, l4, some (.int x), l6] (.int x :: S) (rz_mk h ι, w) := rz_s1 fun _ => rfl
theorem g11_108 : rg Z d rx_m11 108 [l0, l1, l2, l3, l4, l5, some (.int x)] S (rz_mk h ι, w) = rg Z d rx_m11 110 [l0, l1, l2, l3, l4, l5, some (.int x)] (.int x :: S) (rz_mk h ι, w) := rz_s1 fun _ => rfl
theorem g11_110 (c : rz_ar h a 0) (hi : rz_ix x (rz_ln h a)) (hz : Z.2.1 ≤ a) : rg Z d rx_m11 110 L (.int y :: .int x :: .ref a :: S) (rz_mk h ι, w) = rg Z d rx_m11 111 L S (rz_mk h (rz_up ι a x.toNatClampNeg y), w) := rz_iast rfl c hi hz
theorem g11_111 : rg Z d rx_m11 111 [l0, l1, some (.ref a), l3, l4, l5, l6] S (rz_mk h ι, w) = rg Z d rx_m11 112 [l0, l1, some (.ref a), l3, l4, l5, l6] (.ref a :: S) (rz_mk h ι, w) := rz_s1 fun _ => rfl
theorem g11_112 : rg Z d rx_m11 112 [l0, some (.ref a), l2, l3, l4, l5, l6] S (rz_mk h ι, w) = rg Z d rx_m11 113 [l0, some (.ref a), l2, l3, l4, l5, l6] (.ref a :: S) (rz_mk h ι, w) := rz_s1 fun _ => rfl
theorem g11_113 : rg Z d rx_m11 113 [l0, l1, l2, l3, l4, some (.int x), l6] S (rz_mk h ι, w) = rg Z d rx_m11 115 [l0, l1, l2, l3, l4, some (.int x), l6] (.int x :: S) (rz_mk h ι, w) := rz_s1 fun _ => rfl
theorem g11_115 (c : rz_oc h a 5) : rg Z d rx_m11 115 L (v2 :: v1 :: .ref a :: []) (rz_mk h ι, w) = rz_k true (rz_f Z d 51 [.ref a, v1, v2] (rz_mk h ι, w)) (fun v σ' => rg Z d rx_m11 118 L (v.toList ++ []) σ') := rz_cv (pc := 115) (n := 2) (mi := 51) (S := v2 :: v1 :: .ref a :: []) (rest := []) rfl rfl (Nat.le_of_ble_eq_true rfl) (Nat.le_of_ble_eq_true rfl) c
theorem g11_118 : rg Z d rx_m11 118 [l0, l1, l2, l3, some (.int z), l5, l6] (.int x :: S) (rz_mk h ι, w) = rg Z d rx_m11 120 [l0, l1, l2, l3, some (.int z), some (.int x), l6] S (rz_mk h ι, w) := rz_s1 fun _ => rfl
theorem g11_120 : rg Z d rx_m11 120 [l0, l1, l2, l3, l4, some (.int z), some (.int x)] S (rz_mk h ι, w) = rg Z d rx_m11 123 [l0, l1, l2, l3, l4, some (.int z), some (.int (x + 1))] S (rz_mk h ι, w) := rz_s1 fun _ => rfl
theorem g11_123 : rg Z d rx_m11 123 L S (rz_mk h ι, w) = rg Z d rx_m11 43 L S (rz_mk h ι, w) := rz_s1 fun _ => rfl
theorem g11_126 : rg Z d rx_m11 126 L S (rz_mk h ι, w) = rg Z d rx_m11 127 L (.int 0 :: S) (rz_mk h ι, w) := rz_s1 fun _ => rfl
theorem g11_127 : rg Z d rx_m11 127 L [.int x] (rz_mk h ι, w) = some (.inl (some (.int x)), (rz_mk h ι, w)) := rz_reti rfl rfl rfl
theorem e11 : rz_f Z (d + 1) 11 [.ref t0, .ref t1, .ref t2, .int s3, .int s4] σ = rg Z d rx_m11 0 [some (.ref t0), some (.ref t1), some (.ref t2), some (.int s3), some (.int s4), none, none] [] σ := rz_f_eq rfl (Nat.le_of_ble_eq_true rfl)
theorem g12_0 : rg Z d rx_m12 0 [some (.ref a), l1, l2, l3, l4] S (rz_mk h ι, w) = rg Z d rx_m12 1 [some (.ref a), l1, l2, l3, l4] (.ref a :: S) (rz_mk h ι, w) := rz_s1 fun _ => rfl
theorem g12_1 : rg Z d rx_m12 1 [l0, some (.ref a), l2, l3, l4] S (rz_mk h ι, w) = rg Z d rx_m12 2 [l0, some (.ref a), l2, l3, l4] (.ref a :: S) (rz_mk h ι, w) := rz_s1 fun _ => rfl
theorem g12_2 : rg Z d rx_m12 2 [l0, l1, some (.ref a), l3, l4] S (rz_mk h ι, w) = rg Z d rx_m12 3 [l0, l1, some (.ref a), l3, l4] (.ref a :: S) (rz_mk h ι, w) := rz_s1 fun _ => rfl
theorem g12_3 (c : rz_oc h a 2) : rg Z d rx_m12 3 L (v2 :: v1 :: .ref a :: []) (rz_mk h ι, w) = rz_k true (rz_f Z d 10 [.ref a, v1, v2] (rz_mk h ι, w)) (fun v σ' => rg Z d rx_m12 6 L (v.toList ++ []) σ') := rz_cv (pc := 3) (n := 2) (mi := 10) (S := v2 :: v1 :: .ref a :: []) (rest := []) rfl rfl (Nat.le_of_ble_eq_true rfl) (Nat.le_of_ble_eq_true rfl) c
theorem g12_6 : rg Z d rx_m12 6 [some (.ref a), l1, l2, l3, l4] S (rz_mk h ι, w) = rg Z d rx_m12 7 [some (.ref a), l1, l2, l3, l4] (.ref a :: S) (rz_mk h ι, w) := rz_s1 fun _ => rfl
theorem g12_7 (c : rz_fR h a 2 1) : rg Z d rx_m12 7 L (.ref a :: S) (rz_mk h ι, w) = rg Z d rx_m12 10 L (rz_rv h a 1 :: S) (rz_mk h ι, w) := rz_gR rfl (by decide) c
theorem g12_10 : rg Z d rx_m12 10 L S (rz_mk h ι, w) = rg Z d rx_m12 11 L (.int 0 :: S) (rz_mk h ι, w) := rz_s1 fun _ => rfl
theorem g12_11 : rg Z d rx_m12 11 L S (rz_mk h ι, w) = rg Z d rx_m12 12 L (.int 0 :: S) (rz_mk h ι, w) := rz_s1 fun _ => rfl
theorem g12_12 (c : rz_ar h a 0) (hi : rz_ix x (rz_ln h a)) (hz : Z.2.1 ≤ a) : rg Z d rx_m12 12 L (.int y :: .int x :: .ref a :: S) (rz_mk h ι, w) = rg Z d rx_m12 13 L S (rz_mk h (rz_up ι a x.toNatClampNeg y), w) := rz_iast rfl c hi hz
theorem g12_13 : rg Z d rx_m12 13 L S (rz_mk h ι, w) = rg Z d rx_m12 14 L (.int 1 :: S) (rz_mk h ι, w) := rz_s1 fun _ => rfl
theorem g12_14 : rg Z d rx_m12 14 [l0, l1, some (.ref b), l3, l4] (.int x :: S) (rz_mk h ι, w) = rg Z d rx_m12 15 [l0, l1, some (.ref b), some (.int x), l4] S (rz_mk h ι, w) := rz_s1 fun _ => rfl
theorem g12_15 : rg Z d rx_m12 15 [l0, l1, l2, some (.int x), l4] S (rz_mk h ι, w) = rg Z d rx_m12 16 [l0, l1, l2, some (.int x), l4] (.int x :: S) (rz_mk h ι, w) := rz_s1 fun _ => rfl
theorem g12_16 : rg Z d rx_m12 16 L S (rz_mk h ι, w) = rg Z d rx_m12 19 L (.int 256 :: S) (rz_mk h ι, w) := rz_s1 fun _ => rfl
theorem g12_19 : rg Z d rx_m12 19 L (.int y :: .int x :: S) (rz_mk h ι, w) = if x < y then rg Z d rx_m12 22 L S (rz_mk h ι, w) else rg Z d rx_m12 84 L S (rz_mk h ι, w) := rz_if2 (pc := 19) (t := 84) (off := 65) (cc := .ge) (by decide) rfl
theorem g12_22 : rg Z d rx_m12 22 [some (.ref a), l1, l2, l3, l4] S (rz_mk h ι, w) = rg Z d rx_m12 23 [some (.ref a), l1, l2, l3, l4] (.ref a :: S) (rz_mk h ι, w) := rz_s1 fun _ => rfl
theorem g12_23 (c : rz_fR h a 2 1) : rg Z d rx_m12 23 L (.ref a :: S) (rz_mk h ι, w) = rg Z d rx_m12 26 L (rz_rv h a 1 :: S) (rz_mk h ι, w) := rz_gR rfl (by decide) c
theorem g12_26 : rg Z d rx_m12 26 [l0, l1, l2, some (.int x), l4] S (rz_mk h ι, w) = rg Z d rx_m12 27 [l0, l1, l2, some (.int x), l4] (.int x :: S) (rz_mk h ι, w) := rz_s1 fun _ => rfl
theorem g12_27 : rg Z d rx_m12 27 L S (rz_mk h ι, w) = rg Z d rx_m12 28 L (.int 0 :: S) (rz_mk h ι, w) := rz_s1 fun _ => rfl
theorem g12_28 (c : rz_ar h a 0) (hi : rz_ix x (rz_ln h a)) (hz : Z.2.1 ≤ a) : rg Z d rx_m12 28 L (.int y :: .int x :: .ref a :: S) (rz_mk h ι, w) = rg Z d rx_m12 29 L S (rz_mk h (rz_up ι a x.toNatClampNeg y), w) := rz_iast rfl c hi hz
theorem g12_29 : rg Z d rx_m12 29 L S (rz_mk h ι, w) = rg Z d rx_m12 30 L (.int 0 :: S) (rz_mk h ι, w) := rz_s1 fun _ => rfl
theorem g12_30 : rg Z d rx_m12 30 [l0, l1, l2, some (.int z), l4] (.int x :: S) (rz_mk h ι, w) = rg Z d rx_m12 32 [l0, l1, l2, some (.int z), some (.int x)] S (rz_mk h ι, w) := rz_s1 fun _ => rfl
theorem g12_32 : rg Z d rx_m12 32 [l0, l1, l2, l3, some (.int x)] S (rz_mk h ι, w) = rg Z d rx_m12 34 [l0, l1, l2, l3, some (.int x)] (.int x :: S) (rz_mk h ι, w) := rz_s1 fun _ => rfl
theorem g12_34 : rg Z d rx_m12 34 L S (rz_mk h ι, w) = rg Z d rx_m12 36 L (.int 8 :: S) (rz_mk h ι, w) := rz_s1 fun _ => rfl
theorem g12_36 : rg Z d rx_m12 36 L (.int y :: .int x :: S) (rz_mk h ι, w) = if y < x then rg Z d rx_m12 78 L S (rz_mk h ι, w) else rg Z d rx_m12 39 L S (rz_mk h ι, w) := rz_if2 (pc := 36) (t := 78) (off := 42) (cc := .gt) (by decide) rfl
theorem g12_39 : rg Z d rx_m12 39 [l0, l1, l2, some (.int x), l4] S (rz_mk h ι, w) = rg Z d rx_m12 40 [l0, l1, l2, some (.int x), l4] (.int x :: S) (rz_mk h ι, w) := rz_s1 fun _ => rfl
theorem g12_40 : rg Z d rx_m12 40 [l0, some (.ref a), l2, l3, l4] S (rz_mk h ι, w) = rg Z d rx_m12 41 [l0, some (.ref a), l2, l3, l4] (.ref a :: S) (rz_mk h ι, w) := rz_s1 fun _ => rfl
theorem g12_41 (c : rz_fI h a 8 4) : rg Z d rx_m12 41 L (.ref a :: S) (rz_mk h ι, w) = rg Z d rx_m12 44 L (.int (ι a 4) :: S) (rz_mk h ι, w) := rz_gI rfl (by decide) c
theorem g12_44 : rg Z d rx_m12 44 L S (rz_mk h ι, w) = rg Z d rx_m12 45 L (.int (-1) :: S) (rz_mk h ι, w) := rz_s1 fun _ => rfl
theorem g12_45 : rg Z d rx_m12 45 L (.int y :: .int x :: S) (rz_mk h ι, w) = rg Z d rx_m12 46 L (.int (x ^^^ y) :: S) (rz_mk h ι, w) := rz_s1 fun _ => rfl
theorem g12_46 : rg Z d rx_m12 46 L (.int y :: .int x :: S) (rz_mk h ι, w) = rg Z d rx_m12 47 L (.int (x &&& y) :: S) (rz_mk h ι, w) := rz_s1 fun _ => rfl
theorem g12_47 : rg Z d rx_m12 47 L (.int x :: S) (rz_mk h ι, w) = if x = 0 then rg Z d rx_m12 50 L S (rz_mk h ι, w) else rg Z d rx_m12 78 L S (rz_mk h ι, w) := rz_if1 (pc := 47) (t := 78) (off := 31) (cc := .ne) (by decide) rfl
theorem g12_50 : rg Z d rx_m12 50 [some (.ref a), l1, l2, l3, l4] S (rz_mk h ι, w) = rg Z d rx_m12 51 [some (.ref a), l1, l2, l3, l4] (.ref a :: S) (rz_mk h ι, w) := rz_s1 fun _ => rfl
theorem g12_51 (c : rz_fR h a 2 1) : rg Z d rx_m12 51 L (.ref a :: S) (rz_mk h ι, w) = rg Z d rx_m12 54 L (rz_rv h a 1 :: S) (rz_mk h ι, w) := rz_gR rfl (by decide) c
theorem g12_54 : rg Z d rx_m12 54 [l0, l1, l2, some (.int x), l4] S (rz_mk h ι, w) = rg Z d rx_m12 55 [l0, l1, l2, some (.int x), l4] (.int x :: S) (rz_mk h ι, w) := rz_s1 fun _ => rfl
theorem g12_55 : rg Z d rx_m12 55 [some (.ref a), l1, l2, l3, l4] S (rz_mk h ι, w) = rg Z d rx_m12 56 [some (.ref a), l1, l2, l3, l4] (.ref a :: S) (rz_mk h ι, w) := rz_s1 fun _ => rfl
theorem g12_56 (c : rz_fR h a 2 1) : rg Z d rx_m12 56 L (.ref a :: S) (rz_mk h ι, w) = rg Z d rx_m12 59 L (rz_rv h a 1 :: S) (rz_mk h ι, w) := rz_gR rfl (by decide) c
theorem g12_59 : rg Z d rx_m12 59 [l0, l1, l2, some (.int x), l4] S (rz_mk h ι, w) = rg Z d rx_m12 60 [l0, l1, l2, some (.int x), l4] (.int x :: S) (rz_mk h ι, w) := rz_s1 fun _ => rfl
theorem g12_60 (c : rz_ar h a 0) (hi : rz_ix x (rz_ln h a)) : rg Z d rx_m12 60 L (.int x :: .ref a :: S) (rz_mk h ι, w) = rg Z d rx_m12 61 L (.int (ι a x.toNatClampNeg) :: S) (rz_mk h ι, w) := rz_iald rfl c hi
theorem g12_61 : rg Z d rx_m12 61 [some (.ref a), l1, l2, l3, l4] S (rz_mk h ι, w) = rg Z d rx_m12 62 [some (.ref a), l1, l2, l3, l4] (.ref a :: S) (rz_mk h ι, w) := rz_s1 fun _ => rfl
theorem g12_62 : rg Z d rx_m12 62 [l0, l1, l2, some (.int x), l4] S (rz_mk h ι, w) = rg Z d rx_m12 63 [l0, l1, l2, some (.int x), l4] (.int x :: S) (rz_mk h ι, w) := rz_s1 fun _ => rfl
theorem g12_63 : rg Z d rx_m12 63 [l0, l1, l2, l3, some (.int x)] S (rz_mk h ι, w) = rg Z d rx_m12 65 [l0, l1, l2, l3, some (.int x)] (.int x :: S) (rz_mk h ι, w) := rz_s1 fun _ => rfl
theorem g12_65 (c : rz_oc h a 2) : rg Z d rx_m12 65 L (v2 :: v1 :: .ref a :: [.int s0, .int s1, .ref t2]) (rz_mk h ι, w) = rz_k true (rz_f Z d 13 [.ref a, v1, v2] (rz_mk h ι, w)) (fun v σ' => rg Z d rx_m12 68 L (v.toList ++ [.int s0, .int s1, .ref t2]) σ') := rz_cv (pc := 65) (n := 2) (mi := 13) (S := v2 :: v1 :: .ref a :: [.int s0, .int s1, .ref t2]) (rest := [.int s0, .int s1, .ref t2]) rfl rfl (Nat.le_of_ble_eq_true rfl) (Nat.le_of_ble_eq_true rfl) c
theorem g12_68 : rg Z d rx_m12 68 L (.int y :: .int x :: [.int s0, .ref t1]) (rz_mk h ι, w) = rg Z d rx_m12 71 L (.int (if x < y then y else x) :: [.int s0, .ref t1]) (rz_mk h ι, w) := rz_max rfl (Nat.le_of_ble_eq_true rfl)
theorem g12_71 (c : rz_ar h a 0) (hi : rz_ix x (rz_ln h a)) (hz : Z.2.1 ≤ a) : rg Z d rx_m12 71 L (.int y :: .int x :: .ref a :: S) (rz_mk h ι, w) = rg Z d rx_m12 72 L S (rz_mk h (rz_up ι a x.toNatClampNeg y), w) := rz_iast rfl c hi hz
theorem g12_72 : rg Z d rx_m12 72 [l0, l1, l2, some (.int z), some (.int x)] S (rz_mk h ι, w) = rg Z d rx_m12 75 [l0, l1, l2, some (.int z), some (.int (x + 1))] S (rz_mk h ι, w) := rz_s1 fun _ => rfl
theorem g12_75 : rg Z d rx_m12 75 L S (rz_mk h ι, w) = rg Z d rx_m12 32 L S (rz_mk h ι, w) := rz_s1 fun _ => rfl
theorem g12_78 : rg Z d rx_m12 78 [l0, l1, some (.ref b), some (.int x), l4] S (rz_mk h ι, w) = rg Z d rx_m12 81 [l0, l1, some (.ref b), some (.int (x + 1)), l4] S (rz_mk h ι, w) := rz_s1 fun _ => rfl
theorem g12_81 : rg Z d rx_m12 81 L S (rz_mk h ι, w) = rg Z d rx_m12 15 L S (rz_mk h ι, w) := rz_s1 fun _ => rfl
theorem g12_84 : rg Z d rx_m12 84 L S (rz_mk h ι, w) = rg Z d rx_m12 85 L (.int 0 :: S) (rz_mk h ι, w) := rz_s1 fun _ => rfl
theorem g12_85 : rg Z d rx_m12 85 [l0, l1, some (.ref b), l3, l4] (.int x :: S) (rz_mk h ι, w) = rg Z d rx_m12 86 [l0, l1, some (.ref b), some (.int x), l4] S (rz_mk h ι, w) := rz_s1 fun _ => rfl
theorem g12_86 : rg Z d rx_m12 86 [l0, l1, l2, some (.int x), l4] S (rz_mk h ι, w) = rg Z d rx_m12 87 [l0, l1, l2, some (.int x), l4] (.int x :: S) (rz_mk h ι, w) := rz_s1 fun _ => rfl
theorem g12_87 : rg Z d rx_m12 87 L S (rz_mk h ι, w) = rg Z d rx_m12 89 L (.int 8 :: S) (rz_mk h ι, w) := rz_s1 fun _ => rfl
theorem g12_89 : rg Z d rx_m12 89 L (.int y :: .int x :: S) (rz_mk h ι, w) = if x < y then rg Z d rx_m12 92 L S (rz_mk h ι, w) else rg Z d rx_m12 105 L S (rz_mk h ι, w) := rz_if2 (pc := 89) (t := 105) (off := 16) (cc := .ge) (by decide) rfl
theorem g12_92 : rg Z d rx_m12 92 [some (.ref a), l1, l2, l3, l4] S (rz_mk h ι, w) = rg Z d rx_m12 93 [some (.ref a), l1, l2, l3, l4] (.ref a :: S) (rz_mk h ι, w) := rz_s1 fun _ => rfl
theorem g12_93 (c : rz_fR h a 2 4) : rg Z d rx_m12 93 L (.ref a :: S) (rz_mk h ι, w) = rg Z d rx_m12 96 L (rz_rv h a 4 :: S) (rz_mk h ι, w) := rz_gR rfl (by decide) c
theorem g12_96 : rg Z d rx_m12 96 [l0, l1, l2, some (.int x), l4] S (rz_mk h ι, w) = rg Z d rx_m12 97 [l0, l1, l2, some (.int x), l4] (.int x :: S) (rz_mk h ι, w) := rz_s1 fun _ => rfl
theorem g12_97 : rg Z d rx_m12 97 L S (rz_mk h ι, w) = rg Z d rx_m12 98 L (.int (-1) :: S) (rz_mk h ι, w) := rz_s1 fun _ => rfl
theorem g12_98 (c : rz_ar h a 0) (hi : rz_ix x (rz_ln h a)) (hz : Z.2.1 ≤ a) : rg Z d rx_m12 98 L (.int y :: .int x :: .ref a :: S) (rz_mk h ι, w) = rg Z d rx_m12 99 L S (rz_mk h (rz_up ι a x.toNatClampNeg y), w) := rz_iast rfl c hi hz
theorem g12_99 : rg Z d rx_m12 99 [l0, l1, some (.ref b), some (.int x), l4] S (rz_mk h ι, w) = rg Z d rx_m12 102 [l0, l1, some (.ref b), some (.int (x + 1)), l4] S (rz_mk h ι, w) := rz_s1 fun _ => rfl
theorem g12_102 : rg Z d rx_m12 102 L S (rz_mk h ι, w) = rg Z d rx_m12 86 L S (rz_mk h ι, w) := rz_s1 fun _ => rfl
theorem g12_105 : rg Z d rx_m12 105 [l0, some (.ref a), l2, l3, l4] S (rz_mk h ι, w) = rg Z d rx_m12 106 [l0, some (.ref a), l2, l3, l4] (.ref a :: S) (rz_mk h ι, w) := rz_s1 fun _ => rfl
theorem g12_106 (c : rz_fI h a 8 4) : rg Z d rx_m12 106 L (.ref a :: S) (rz_mk h ι, w) = rg Z d rx_m12 109 L (.int (ι a 4) :: S) (rz_mk h ι, w) := rz_gI rfl (by decide) c
theorem g12_109 : rg Z d rx_m12 109 [l0, l1, some (.ref b), l3, l4] (.int x :: S) (rz_mk h ι, w) = rg Z d rx_m12 110 [l0, l1, some (.ref b), some (.int x), l4] S (rz_mk h ι, w) := rz_s1 fun _ => rfl
theorem g12_110 : rg Z d rx_m12 110 L S (rz_mk h ι, w) = rg Z d rx_m12 111 L (.int 0 :: S) (rz_mk h ι, w) := rz_s1 fun _ => rfl
theorem g12_111 : rg Z d rx_m12 111 [l0, l1, l2, some (.int z), l4] (.int x :: S) (rz_mk h ι, w) = rg Z d rx_m12 113 [l0, l1, l2, some (.int z), some (.int x)] S (rz_mk h ι, w) := rz_s1 fun _ => rfl
theorem g12_113 : rg Z d rx_m12 113 [l0, l1, l2, l3, some (.int x)] S (rz_mk h ι, w) = rg Z d rx_m12 115 [l0, l1, l2, l3, some (.int x)] (.int x :: S) (rz_mk h ι, w) := rz_s1 fun _ => rfl
theorem g12_115 : rg Z d rx_m12 115 L S (rz_mk h ι, w) = rg Z d rx_m12 117 L (.int 8 :: S) (rz_mk h ι, w) := rz_s1 fun _ => rfl
theorem g12_117 : rg Z d rx_m12 117 L (.int y :: .int x :: S) (rz_mk h ι, w) = if x < y then rg Z d rx_m12 120 L S (rz_mk h ι, w) else rg Z d rx_m12 136 L S (rz_mk h ι, w) := rz_if2 (pc := 117) (t := 136) (off := 19) (cc := .ge) (by decide) rfl
theorem g12_120 : rg Z d rx_m12 120 [l0, l1, l2, some (.int x), l4] S (rz_mk h ι, w) = rg Z d rx_m12 121 [l0, l1, l2, some (.int x), l4] (.int x :: S) (rz_mk h ι, w) := rz_s1 fun _ => rfl
theorem g12_121 : rg Z d rx_m12 121 L (.int x :: S) (rz_mk h ι, w) = if x = 0 then rg Z d rx_m12 136 L S (rz_mk h ι, w) else rg Z d rx_m12 124 L S (rz_mk h ι, w) := rz_if1 (pc := 121) (t := 136) (off := 15) (cc := .eq) (by decide) rfl
theorem g12_124 : rg Z d rx_m12 124 [some (.ref a), l1, l2, l3, l4] S (rz_mk h ι, w) = rg Z d rx_m12 125 [some (.ref a), l1, l2, l3, l4] (.ref a :: S) (rz_mk h ι, w) := rz_s1 fun _ => rfl
theorem g12_125 : rg Z d rx_m12 125 [l0, l1, l2, some (.int x), l4] S (rz_mk h ι, w) = rg Z d rx_m12 126 [l0, l1, l2, some (.int x), l4] (.int x :: S) (rz_mk h ι, w) := rz_s1 fun _ => rfl
theorem g12_126 (c : rz_oc h a 2) : rg Z d rx_m12 126 L (v1 :: .ref a :: []) (rz_mk h ι, w) = rz_k true (rz_f Z d 14 [.ref a, v1] (rz_mk h ι, w)) (fun v σ' => rg Z d rx_m12 129 L (v.toList ++ []) σ') := rz_cv (pc := 126) (n := 1) (mi := 14) (S := v1 :: .ref a :: []) (rest := []) rfl rfl (Nat.le_of_ble_eq_true rfl) (Nat.le_of_ble_eq_true rfl) c
theorem g12_129 : rg Z d rx_m12 129 [l0, l1, some (.ref b), l3, l4] (.int x :: S) (rz_mk h ι, w) = rg Z d rx_m12 130 [l0, l1, some (.ref b), some (.int x), l4] S (rz_mk h ι, w) := rz_s1 fun _ => rfl
theorem g12_130 : rg Z d rx_m12 130 [l0, l1, l2, some (.int z), some (.int x)] S (rz_mk h ι, w) = rg Z d rx_m12 133 [l0, l1, l2, some (.int z), some (.int (x + 1))] S (rz_mk h ι, w) := rz_s1 fun _ => rfl
theorem g12_133 : rg Z d rx_m12 133 L S (rz_mk h ι, w) = rg Z d rx_m12 113 L S (rz_mk h ι, w) := rz_s1 fun _ => rfl
theorem g12_136 : rg Z d rx_m12 136 [some (.ref a), l1, l2, l3, l4] S (rz_mk h ι, w) = rg Z d rx_m12 137 [some (.ref a), l1, l2, l3, l4] (.ref a :: S) (rz_mk h ι, w) := rz_s1 fun _ => rfl
theorem g12_137 (c : rz_fR h a 2 1) : rg Z d rx_m12 137 L (.ref a :: S) (rz_mk h ι, w) = rg Z d rx_m12 140 L (rz_rv h a 1 :: S) (rz_mk h ι, w) := rz_gR rfl (by decide) c
theorem g12_140 : rg Z d rx_m12 140 [l0, some (.ref a), l2, l3, l4] S (rz_mk h ι, w) = rg Z d rx_m12 141 [l0, some (.ref a), l2, l3, l4] (.ref a :: S) (rz_mk h ι, w) := rz_s1 fun _ => rfl
theorem g12_141 (c : rz_fI h a 8 4) : rg Z d rx_m12 141 L (.ref a :: S) (rz_mk h ι, w) = rg Z d rx_m12 144 L (.int (ι a 4) :: S) (rz_mk h ι, w) := rz_gI rfl (by decide) c
theorem g12_144 : rg Z d rx_m12 144 L S (rz_mk h ι, w) = rg Z d rx_m12 147 L (.int 255 :: S) (rz_mk h ι, w) := rz_s1 fun _ => rfl
theorem g12_147 : rg Z d rx_m12 147 L (.int y :: .int x :: S) (rz_mk h ι, w) = rg Z d rx_m12 148 L (.int (x &&& y) :: S) (rz_mk h ι, w) := rz_s1 fun _ => rfl
theorem g12_148 (c : rz_ar h a 0) (hi : rz_ix x (rz_ln h a)) : rg Z d rx_m12 148 L (.int x :: .ref a :: S) (rz_mk h ι, w) = rg Z d rx_m12 149 L (.int (ι a x.toNatClampNeg) :: S) (rz_mk h ι, w) := rz_iald rfl c hi
theorem g12_149 : rg Z d rx_m12 149 L [.int x] (rz_mk h ι, w) = some (.inl (some (.int x)), (rz_mk h ι, w)) := rz_reti rfl rfl rfl
theorem e12 : rz_f Z (d + 1) 12 [.ref t0, .ref t1, .ref t2] σ = rg Z d rx_m12 0 [some (.ref t0), some (.ref t1), some (.ref t2), none, none] [] σ := rz_f_eq rfl (Nat.le_of_ble_eq_true rfl)
theorem g13_0 : rg Z d rx_m13 0 [l0, some (.int x), l2, l3, l4] S (rz_mk h ι, w) = rg Z d rx_m13 1 [l0, some (.int x), l2, l3, l4] (.int x :: S) (rz_mk h ι, w) := rz_s1 fun _ => rfl
theorem g13_1 : rg Z d rx_m13 1 L (v1 :: []) (rz_mk h ι, w) = rz_k true (rz_f Z d 289 [v1] (rz_mk h ι, w)) (fun v σ' => rg Z d rx_m13 4 L (v.toList ++ []) σ') := rz_cs (pc := 1) (n := 1) (mi := 289) (S := v1 :: []) (rest := []) rfl rfl (Nat.le_of_ble_eq_true rfl) (Nat.le_of_ble_eq_true rfl)
theorem g13_4 : rg Z d rx_m13 4 [l0, l1, some (.int z), l3, l4] (.int x :: S) (rz_mk h ι, w) = rg Z d rx_m13 5 [l0, l1, some (.int z), some (.int x), l4] S (rz_mk h ι, w) := rz_s1 fun _ => rfl
theorem g13_5 : rg Z d rx_m13 5 [l0, some (.int x), l2, l3, l4] S (rz_mk h ι, w) = rg Z d rx_m13 6 [l0, some (.int x), l2, l3, l4] (.int x :: S) (rz_mk h ι, w) := rz_s1 fun _ => rfl
theorem g13_6 : rg Z d rx_m13 6 L S (rz_mk h ι, w) = rg Z d rx_m13 7 L (.int 1 :: S) (rz_mk h ι, w) := rz_s1 fun _ => rfl
theorem g13_7 : rg Z d rx_m13 7 [l0, l1, l2, some (.int x), l4] S (rz_mk h ι, w) = rg Z d rx_m13 8 [l0, l1, l2, some (.int x), l4] (.int x :: S) (rz_mk h ι, w) := rz_s1 fun _ => rfl
theorem g13_8 : rg Z d rx_m13 8 L (.int y :: .int x :: S) (rz_mk h ι, w) = rg Z d rx_m13 9 L (.int (x <<< (y &&& 31)) :: S) (rz_mk h ι, w) := rz_s1 fun _ => rfl
theorem g13_9 : rg Z d rx_m13 9 L S (rz_mk h ι, w) = rg Z d rx_m13 10 L (.int (-1) :: S) (rz_mk h ι, w) := rz_s1 fun _ => rfl
theorem g13_10 : rg Z d rx_m13 10 L (.int y :: .int x :: S) (rz_mk h ι, w) = rg Z d rx_m13 11 L (.int (x ^^^ y) :: S) (rz_mk h ι, w) := rz_s1 fun _ => rfl
theorem g13_11 : rg Z d rx_m13 11 L (.int y :: .int x :: S) (rz_mk h ι, w) = rg Z d rx_m13 12 L (.int (x &&& y) :: S) (rz_mk h ι, w) := rz_s1 fun _ => rfl
theorem g13_12 : rg Z d rx_m13 12 L S (rz_mk h ι, w) = rg Z d rx_m13 15 L (.int 255 :: S) (rz_mk h ι, w) := rz_s1 fun _ => rfl
theorem g13_15 : rg Z d rx_m13 15 L (.int y :: .int x :: S) (rz_mk h ι, w) = rg Z d rx_m13 16 L (.int (x &&& y) :: S) (rz_mk h ι, w) := rz_s1 fun _ => rfl
theorem g13_16 : rg Z d rx_m13 16 [l0, l1, l2, some (.int z), l4] (.int x :: S) (rz_mk h ι, w) = rg Z d rx_m13 18 [l0, l1, l2, some (.int z), some (.int x)] S (rz_mk h ι, w) := rz_s1 fun _ => rfl
theorem g13_18 : rg Z d rx_m13 18 [l0, l1, some (.int x), l3, l4] S (rz_mk h ι, w) = rg Z d rx_m13 19 [l0, l1, some (.int x), l3, l4] (.int x :: S) (rz_mk h ι, w) := rz_s1 fun _ => rfl
theorem g13_19 : rg Z d rx_m13 19 L S (rz_mk h ι, w) = rg Z d rx_m13 21 L (.int 8 :: S) (rz_mk h ι, w) := rz_s1 fun _ => rfl
theorem g13_21 : rg Z d rx_m13 21 L (.int y :: .int x :: S) (rz_mk h ι, w) = if x = y then rg Z d rx_m13 24 L S (rz_mk h ι, w) else rg Z d rx_m13 46 L S (rz_mk h ι, w) := rz_if2 (pc := 21) (t := 46) (off := 25) (cc := .ne) (by decide) rfl
theorem g13_24 : rg Z d rx_m13 24 [l0, l1, l2, l3, some (.int x)] S (rz_mk h ι, w) = rg Z d rx_m13 26 [l0, l1, l2, l3, some (.int x)] (.int x :: S) (rz_mk h ι, w) := rz_s1 fun _ => rfl
theorem g13_26 : rg Z d rx_m13 26 L (v1 :: []) (rz_mk h ι, w) = rz_k true (rz_f Z d 290 [v1] (rz_mk h ι, w)) (fun v σ' => rg Z d rx_m13 29 L (v.toList ++ []) σ') := rz_cs (pc := 26) (n := 1) (mi := 290) (S := v1 :: []) (rest := []) rfl rfl (Nat.le_of_ble_eq_true rfl) (Nat.le_of_ble_eq_true rfl)
theorem g13_29 : rg Z d rx_m13 29 L S (rz_mk h ι, w) = rg Z d rx_m13 30 L (.int 2 :: S) (rz_mk h ι, w) := rz_s1 fun _ => rfl
theorem g13_30 : rg Z d rx_m13 30 L (.int 2 :: .int x :: S) (rz_mk h ι, w) = rg Z d rx_m13 31 L (.int (x - x / 2 * 2) :: S) (rz_mk h ι, w) := rz_rem rfl (by decide)
theorem g13_31 : rg Z d rx_m13 31 L (.int x :: S) (rz_mk h ι, w) = if x = 0 then rg Z d rx_m13 34 L S (rz_mk h ι, w) else rg Z d rx_m13 44 L S (rz_mk h ι, w) := rz_if1 (pc := 31) (t := 44) (off := 13) (cc := .ne) (by decide) rfl
theorem g13_34 : rg Z d rx_m13 34 [some (.ref a), l1, l2, l3, l4] S (rz_mk h ι, w) = rg Z d rx_m13 35 [some (.ref a), l1, l2, l3, l4] (.ref a :: S) (rz_mk h ι, w) := rz_s1 fun _ => rfl
theorem g13_35 (c : rz_fR h a 2 1) : rg Z d rx_m13 35 L (.ref a :: S) (rz_mk h ι, w) = rg Z d rx_m13 38 L (rz_rv h a 1 :: S) (rz_mk h ι, w) := rz_gR rfl (by decide) c
theorem g13_38 : rg Z d rx_m13 38 [l0, l1, l2, l3, some (.int x)] S (rz_mk h ι, w) = rg Z d rx_m13 40 [l0, l1, l2, l3, some (.int x)] (.int x :: S) (rz_mk h ι, w) := rz_s1 fun _ => rfl
theorem g13_40 (c : rz_ar h a 0) (hi : rz_ix x (rz_ln h a)) : rg Z d rx_m13 40 L (.int x :: .ref a :: S) (rz_mk h ι, w) = rg Z d rx_m13 41 L (.int (ι a x.toNatClampNeg) :: S) (rz_mk h ι, w) := rz_iald rfl c hi
theorem g13_41 : rg Z d rx_m13 41 L S (rz_mk h ι, w) = rg Z d rx_m13 45 L S (rz_mk h ι, w) := rz_s1 fun _ => rfl
theorem g13_44 : rg Z d rx_m13 44 L S (rz_mk h ι, w) = rg Z d rx_m13 45 L (.int (-1) :: S) (rz_mk h ι, w) := rz_s1 fun _ => rfl
theorem g13_45 : rg Z d rx_m13 45 L [.int x] (rz_mk h ι, w) = some (.inl (some (.int x)), (rz_mk h ι, w)) := rz_reti rfl rfl rfl
theorem g13_46 : rg Z d rx_m13 46 [l0, l1, l2, some (.int x), l4] S (rz_mk h ι, w) = rg Z d rx_m13 47 [l0, l1, l2, some (.int x), l4] (.int x :: S) (rz_mk h ι, w) := rz_s1 fun _ => rfl
theorem g13_47 : rg Z d rx_m13 47 L S (rz_mk h ι, w) = rg Z d rx_m13 49 L (.int 8 :: S) (rz_mk h ι, w) := rz_s1 fun _ => rfl
theorem g13_49 : rg Z d rx_m13 49 L (.int y :: .int x :: S) (rz_mk h ι, w) = if x < y then rg Z d rx_m13 52 L S (rz_mk h ι, w) else rg Z d rx_m13 61 L S (rz_mk h ι, w) := rz_if2 (pc := 49) (t := 61) (off := 12) (cc := .ge) (by decide) rfl
theorem g13_52 : rg Z d rx_m13 52 [l0, l1, l2, l3, some (.int x)] S (rz_mk h ι, w) = rg Z d rx_m13 54 [l0, l1, l2, l3, some (.int x)] (.int x :: S) (rz_mk h ι, w) := rz_s1 fun _ => rfl
theorem g13_54 : rg Z d rx_m13 54 [l0, l1, some (.int x), l3, l4] S (rz_mk h ι, w) = rg Z d rx_m13 55 [l0, l1, some (.int x), l3, l4] (.int x :: S) (rz_mk h ι, w) := rz_s1 fun _ => rfl
theorem g13_55 : rg Z d rx_m13 55 L (.int y :: .int x :: S) (rz_mk h ι, w) = rg Z d rx_m13 56 L (.int (x >>> (y &&& 31)) :: S) (rz_mk h ι, w) := rz_s1 fun _ => rfl
theorem g13_56 : rg Z d rx_m13 56 L S (rz_mk h ι, w) = rg Z d rx_m13 57 L (.int 1 :: S) (rz_mk h ι, w) := rz_s1 fun _ => rfl
theorem g13_57 : rg Z d rx_m13 57 L (.int y :: .int x :: S) (rz_mk h ι, w) = rg Z d rx_m13 58 L (.int (x &&& y) :: S) (rz_mk h ι, w) := rz_s1 fun _ => rfl
theorem g13_58 : rg Z d rx_m13 58 L (.int x :: S) (rz_mk h ι, w) = if x = 0 then rg Z d rx_m13 61 L S (rz_mk h ι, w) else rg Z d rx_m13 63 L S (rz_mk h ι, w) := rz_if1 (pc := 58) (t := 63) (off := 5) (cc := .ne) (by decide) rfl
theorem g13_61 : rg Z d rx_m13 61 L S (rz_mk h ι, w) = rg Z d rx_m13 62 L (.int (-1) :: S) (rz_mk h ι, w) := rz_s1 fun _ => rfl
theorem g13_62 : rg Z d rx_m13 62 L [.int x] (rz_mk h ι, w) = some (.inl (some (.int x)), (rz_mk h ι, w)) := rz_reti rfl rfl rfl
theorem g13_63 : rg Z d rx_m13 63 [some (.ref a), l1, l2, l3, l4] S (rz_mk h ι, w) = rg Z d rx_m13 64 [some (.ref a), l1, l2, l3, l4] (.ref a :: S) (rz_mk h ι, w) := rz_s1 fun _ => rfl
theorem g13_64 (c : rz_fR h a 2 0) : rg Z d rx_m13 64 L (.ref a :: S) (rz_mk h ι, w) = rg Z d rx_m13 67 L (rz_rv h a 0 :: S) (rz_mk h ι, w) := rz_gR rfl (by decide) c
theorem g13_67 : rg Z d rx_m13 67 [l0, l1, some (.int x), l3, l4] S (rz_mk h ι, w) = rg Z d rx_m13 68 [l0, l1, some (.int x), l3, l4] (.int x :: S) (rz_mk h ι, w) := rz_s1 fun _ => rfl
theorem g13_68 : rg Z d rx_m13 68 L S (rz_mk h ι, w) = rg Z d rx_m13 70 L (.int 8 :: S) (rz_mk h ι, w) := rz_s1 fun _ => rfl
theorem g13_70 : rg Z d rx_m13 70 L (.int y :: .int x :: S) (rz_mk h ι, w) = rg Z d rx_m13 71 L (.int (x * y) :: S) (rz_mk h ι, w) := rz_s1 fun _ => rfl
theorem g13_71 : rg Z d rx_m13 71 [l0, l1, l2, some (.int x), l4] S (rz_mk h ι, w) = rg Z d rx_m13 72 [l0, l1, l2, some (.int x), l4] (.int x :: S) (rz_mk h ι, w) := rz_s1 fun _ => rfl
theorem g13_72 : rg Z d rx_m13 72 L (.int y :: .int x :: S) (rz_mk h ι, w) = rg Z d rx_m13 73 L (.int (x + y) :: S) (rz_mk h ι, w) := rz_s1 fun _ => rfl
theorem g13_73 (c : rz_ar h a 0) (hi : rz_ix x (rz_ln h a)) : rg Z d rx_m13 73 L (.int x :: .ref a :: S) (rz_mk h ι, w) = rg Z d rx_m13 74 L (.int (ι a x.toNatClampNeg) :: S) (rz_mk h ι, w) := rz_iald rfl c hi
theorem g13_74 : rg Z d rx_m13 74 [some (.ref a), l1, l2, l3, l4] S (rz_mk h ι, w) = rg Z d rx_m13 75 [some (.ref a), l1, l2, l3, l4] (.ref a :: S) (rz_mk h ι, w) := rz_s1 fun _ => rfl
theorem g13_75 (c : rz_fR h a 2 1) : rg Z d rx_m13 75 L (.ref a :: S) (rz_mk h ι, w) = rg Z d rx_m13 78 L (rz_rv h a 1 :: S) (rz_mk h ι, w) := rz_gR rfl (by decide) c
theorem g13_78 : rg Z d rx_m13 78 [l0, l1, l2, l3, some (.int x)] S (rz_mk h ι, w) = rg Z d rx_m13 80 [l0, l1, l2, l3, some (.int x)] (.int x :: S) (rz_mk h ι, w) := rz_s1 fun _ => rfl
theorem g13_80 : rg Z d rx_m13 80 L S (rz_mk h ι, w) = rg Z d rx_m13 81 L (.int 1 :: S) (rz_mk h ι, w) := rz_s1 fun _ => rfl
theorem g13_81 : rg Z d rx_m13 81 [l0, l1, some (.int x), l3, l4] S (rz_mk h ι, w) = rg Z d rx_m13 82 [l0, l1, some (.int x), l3, l4] (.int x :: S) (rz_mk h ι, w) := rz_s1 fun _ => rfl
theorem g13_82 : rg Z d rx_m13 82 L (.int y :: .int x :: S) (rz_mk h ι, w) = rg Z d rx_m13 83 L (.int (x <<< (y &&& 31)) :: S) (rz_mk h ι, w) := rz_s1 fun _ => rfl
theorem g13_83 : rg Z d rx_m13 83 L S (rz_mk h ι, w) = rg Z d rx_m13 84 L (.int (-1) :: S) (rz_mk h ι, w) := rz_s1 fun _ => rfl
theorem g13_84 : rg Z d rx_m13 84 L (.int y :: .int x :: S) (rz_mk h ι, w) = rg Z d rx_m13 85 L (.int (x ^^^ y) :: S) (rz_mk h ι, w) := rz_s1 fun _ => rfl
theorem g13_85 : rg Z d rx_m13 85 L (.int y :: .int x :: S) (rz_mk h ι, w) = rg Z d rx_m13 86 L (.int (x &&& y) :: S) (rz_mk h ι, w) := rz_s1 fun _ => rfl
theorem g13_86 (c : rz_ar h a 0) (hi : rz_ix x (rz_ln h a)) : rg Z d rx_m13 86 L (.int x :: .ref a :: S) (rz_mk h ι, w) = rg Z d rx_m13 87 L (.int (ι a x.toNatClampNeg) :: S) (rz_mk h ι, w) := rz_iald rfl c hi
theorem g13_87 : rg Z d rx_m13 87 L (.int y :: .int x :: S) (rz_mk h ι, w) = rg Z d rx_m13 88 L (.int (x + y) :: S) (rz_mk h ι, w) := rz_s1 fun _ => rfl
theorem g13_88 : rg Z d rx_m13 88 L [.int x] (rz_mk h ι, w) = some (.inl (some (.int x)), (rz_mk h ι, w)) := rz_reti rfl rfl rfl
theorem e13 : rz_f Z (d + 1) 13 [.ref t0, .int s1, .int s2] σ = rg Z d rx_m13 0 [some (.ref t0), some (.int s1), some (.int s2), none, none] [] σ := rz_f_eq rfl (Nat.le_of_ble_eq_true rfl)
theorem g14_0 : rg Z d rx_m14 0 [l0, some (.int x), l2, l3, l4] S (rz_mk h ι, w) = rg Z d rx_m14 1 [l0, some (.int x), l2, l3, l4] (.int x :: S) (rz_mk h ι, w) := rz_s1 fun _ => rfl
theorem g14_1 : rg Z d rx_m14 1 L (v1 :: []) (rz_mk h ι, w) = rz_k true (rz_f Z d 289 [v1] (rz_mk h ι, w)) (fun v σ' => rg Z d rx_m14 4 L (v.toList ++ []) σ') := rz_cs (pc := 1) (n := 1) (mi := 289) (S := v1 :: []) (rest := []) rfl rfl (Nat.le_of_ble_eq_true rfl) (Nat.le_of_ble_eq_true rfl)
theorem g14_4 : rg Z d rx_m14 4 [l0, some (.int z), l2, l3, l4] (.int x :: S) (rz_mk h ι, w) = rg Z d rx_m14 5 [l0, some (.int z), some (.int x), l3, l4] S (rz_mk h ι, w) := rz_s1 fun _ => rfl
theorem g14_5 : rg Z d rx_m14 5 [l0, some (.int x), l2, l3, l4] S (rz_mk h ι, w) = rg Z d rx_m14 6 [l0, some (.int x), l2, l3, l4] (.int x :: S) (rz_mk h ι, w) := rz_s1 fun _ => rfl
theorem g14_6 : rg Z d rx_m14 6 L S (rz_mk h ι, w) = rg Z d rx_m14 7 L (.int 1 :: S) (rz_mk h ι, w) := rz_s1 fun _ => rfl
theorem g14_7 : rg Z d rx_m14 7 [l0, l1, some (.int x), l3, l4] S (rz_mk h ι, w) = rg Z d rx_m14 8 [l0, l1, some (.int x), l3, l4] (.int x :: S) (rz_mk h ι, w) := rz_s1 fun _ => rfl
theorem g14_8 : rg Z d rx_m14 8 L (.int y :: .int x :: S) (rz_mk h ι, w) = rg Z d rx_m14 9 L (.int (x <<< (y &&& 31)) :: S) (rz_mk h ι, w) := rz_s1 fun _ => rfl
theorem g14_9 : rg Z d rx_m14 9 L S (rz_mk h ι, w) = rg Z d rx_m14 10 L (.int (-1) :: S) (rz_mk h ι, w) := rz_s1 fun _ => rfl
theorem g14_10 : rg Z d rx_m14 10 L (.int y :: .int x :: S) (rz_mk h ι, w) = rg Z d rx_m14 11 L (.int (x ^^^ y) :: S) (rz_mk h ι, w) := rz_s1 fun _ => rfl
theorem g14_11 : rg Z d rx_m14 11 L (.int y :: .int x :: S) (rz_mk h ι, w) = rg Z d rx_m14 12 L (.int (x &&& y) :: S) (rz_mk h ι, w) := rz_s1 fun _ => rfl
theorem g14_12 : rg Z d rx_m14 12 [l0, l1, some (.int z), l3, l4] (.int x :: S) (rz_mk h ι, w) = rg Z d rx_m14 13 [l0, l1, some (.int z), some (.int x), l4] S (rz_mk h ι, w) := rz_s1 fun _ => rfl
theorem g14_13 : rg Z d rx_m14 13 L S (rz_mk h ι, w) = rg Z d rx_m14 14 L (.int 0 :: S) (rz_mk h ι, w) := rz_s1 fun _ => rfl
theorem g14_14 : rg Z d rx_m14 14 [l0, l1, l2, some (.int z), l4] (.int x :: S) (rz_mk h ι, w) = rg Z d rx_m14 16 [l0, l1, l2, some (.int z), some (.int x)] S (rz_mk h ι, w) := rz_s1 fun _ => rfl
theorem g14_16 : rg Z d rx_m14 16 [l0, l1, l2, l3, some (.int x)] S (rz_mk h ι, w) = rg Z d rx_m14 18 [l0, l1, l2, l3, some (.int x)] (.int x :: S) (rz_mk h ι, w) := rz_s1 fun _ => rfl
theorem g14_18 : rg Z d rx_m14 18 L S (rz_mk h ι, w) = rg Z d rx_m14 20 L (.int 8 :: S) (rz_mk h ι, w) := rz_s1 fun _ => rfl
theorem g14_20 : rg Z d rx_m14 20 L (.int y :: .int x :: S) (rz_mk h ι, w) = if x < y then rg Z d rx_m14 23 L S (rz_mk h ι, w) else rg Z d rx_m14 80 L S (rz_mk h ι, w) := rz_if2 (pc := 20) (t := 80) (off := 60) (cc := .ge) (by decide) rfl
theorem g14_23 : rg Z d rx_m14 23 [l0, l1, some (.int x), l3, l4] S (rz_mk h ι, w) = rg Z d rx_m14 24 [l0, l1, some (.int x), l3, l4] (.int x :: S) (rz_mk h ι, w) := rz_s1 fun _ => rfl
theorem g14_24 : rg Z d rx_m14 24 L S (rz_mk h ι, w) = rg Z d rx_m14 26 L (.int 8 :: S) (rz_mk h ι, w) := rz_s1 fun _ => rfl
theorem g14_26 : rg Z d rx_m14 26 L (.int y :: .int x :: S) (rz_mk h ι, w) = if x < y then rg Z d rx_m14 29 L S (rz_mk h ι, w) else rg Z d rx_m14 80 L S (rz_mk h ι, w) := rz_if2 (pc := 26) (t := 80) (off := 54) (cc := .ge) (by decide) rfl
theorem g14_29 : rg Z d rx_m14 29 [some (.ref a), l1, l2, l3, l4] S (rz_mk h ι, w) = rg Z d rx_m14 30 [some (.ref a), l1, l2, l3, l4] (.ref a :: S) (rz_mk h ι, w) := rz_s1 fun _ => rfl
theorem g14_30 : rg Z d rx_m14 30 [l0, some (.int x), l2, l3, l4] S (rz_mk h ι, w) = rg Z d rx_m14 31 [l0, some (.int x), l2, l3, l4] (.int x :: S) (rz_mk h ι, w) := rz_s1 fun _ => rfl
theorem g14_31 : rg Z d rx_m14 31 [l0, l1, l2, l3, some (.int x)] S (rz_mk h ι, w) = rg Z d rx_m14 33 [l0, l1, l2, l3, some (.int x)] (.int x :: S) (rz_mk h ι, w) := rz_s1 fun _ => rfl
theorem g14_33 (c : rz_oc h a 2) : rg Z d rx_m14 33 L (v2 :: v1 :: .ref a :: []) (rz_mk h ι, w) = rz_k true (rz_f Z d 13 [.ref a, v1, v2] (rz_mk h ι, w)) (fun v σ' => rg Z d rx_m14 36 L (v.toList ++ []) σ') := rz_cv (pc := 33) (n := 2) (mi := 13) (S := v2 :: v1 :: .ref a :: []) (rest := []) rfl rfl (Nat.le_of_ble_eq_true rfl) (Nat.le_of_ble_eq_true rfl) c
theorem g14_36 : rg Z d rx_m14 36 [some (.ref a), l1, l2, l3, l4] S (rz_mk h ι, w) = rg Z d rx_m14 37 [some (.ref a), l1, l2, l3, l4] (.ref a :: S) (rz_mk h ι, w) := rz_s1 fun _ => rfl
theorem g14_37 (c : rz_fR h a 2 1) : rg Z d rx_m14 37 L (.ref a :: S) (rz_mk h ι, w) = rg Z d rx_m14 40 L (rz_rv h a 1 :: S) (rz_mk h ι, w) := rz_gR rfl (by decide) c
theorem g14_40 : rg Z d rx_m14 40 [l0, some (.int x), l2, l3, l4] S (rz_mk h ι, w) = rg Z d rx_m14 41 [l0, some (.int x), l2, l3, l4] (.int x :: S) (rz_mk h ι, w) := rz_s1 fun _ => rfl
theorem g14_41 : rg Z d rx_m14 41 L S (rz_mk h ι, w) = rg Z d rx_m14 44 L (.int 255 :: S) (rz_mk h ι, w) := rz_s1 fun _ => rfl
theorem g14_44 : rg Z d rx_m14 44 L (.int y :: .int x :: S) (rz_mk h ι, w) = rg Z d rx_m14 45 L (.int (x &&& y) :: S) (rz_mk h ι, w) := rz_s1 fun _ => rfl
theorem g14_45 (c : rz_ar h a 0) (hi : rz_ix x (rz_ln h a)) : rg Z d rx_m14 45 L (.int x :: .ref a :: S) (rz_mk h ι, w) = rg Z d rx_m14 46 L (.int (ι a x.toNatClampNeg) :: S) (rz_mk h ι, w) := rz_iald rfl c hi
theorem g14_46 : rg Z d rx_m14 46 L (.int y :: .int x :: S) (rz_mk h ι, w) = if x = y then rg Z d rx_m14 49 L S (rz_mk h ι, w) else rg Z d rx_m14 74 L S (rz_mk h ι, w) := rz_if2 (pc := 46) (t := 74) (off := 28) (cc := .ne) (by decide) rfl
theorem g14_49 : rg Z d rx_m14 49 [some (.ref a), l1, l2, l3, l4] S (rz_mk h ι, w) = rg Z d rx_m14 50 [some (.ref a), l1, l2, l3, l4] (.ref a :: S) (rz_mk h ι, w) := rz_s1 fun _ => rfl
theorem g14_50 (c : rz_fR h a 2 4) : rg Z d rx_m14 50 L (.ref a :: S) (rz_mk h ι, w) = rg Z d rx_m14 53 L (rz_rv h a 4 :: S) (rz_mk h ι, w) := rz_gR rfl (by decide) c
theorem g14_53 : rg Z d rx_m14 53 [l0, l1, some (.int x), l3, l4] S (rz_mk h ι, w) = rg Z d rx_m14 54 [l0, l1, some (.int x), l3, l4] (.int x :: S) (rz_mk h ι, w) := rz_s1 fun _ => rfl
theorem g14_54 : rg Z d rx_m14 54 [l0, l1, l2, l3, some (.int x)] S (rz_mk h ι, w) = rg Z d rx_m14 56 [l0, l1, l2, l3, some (.int x)] (.int x :: S) (rz_mk h ι, w) := rz_s1 fun _ => rfl
theorem g14_56 (c : rz_ar h a 0) (hi : rz_ix x (rz_ln h a)) (hz : Z.2.1 ≤ a) : rg Z d rx_m14 56 L (.int y :: .int x :: .ref a :: S) (rz_mk h ι, w) = rg Z d rx_m14 57 L S (rz_mk h (rz_up ι a x.toNatClampNeg y), w) := rz_iast rfl c hi hz
theorem g14_57 : rg Z d rx_m14 57 [some (.ref a), l1, l2, l3, l4] S (rz_mk h ι, w) = rg Z d rx_m14 58 [some (.ref a), l1, l2, l3, l4] (.ref a :: S) (rz_mk h ι, w) := rz_s1 fun _ => rfl
theorem g14_58 (c : rz_fR h a 2 4) : rg Z d rx_m14 58 L (.ref a :: S) (rz_mk h ι, w) = rg Z d rx_m14 61 L (rz_rv h a 4 :: S) (rz_mk h ι, w) := rz_gR rfl (by decide) c
theorem g14_61 : rg Z d rx_m14 61 [l0, l1, l2, l3, some (.int x)] S (rz_mk h ι, w) = rg Z d rx_m14 63 [l0, l1, l2, l3, some (.int x)] (.int x :: S) (rz_mk h ι, w) := rz_s1 fun _ => rfl
theorem g14_63 : rg Z d rx_m14 63 [l0, l1, some (.int x), l3, l4] S (rz_mk h ι, w) = rg Z d rx_m14 64 [l0, l1, some (.int x), l3, l4] (.int x :: S) (rz_mk h ι, w) := rz_s1 fun _ => rfl
theorem g14_64 (c : rz_ar h a 0) (hi : rz_ix x (rz_ln h a)) (hz : Z.2.1 ≤ a) : rg Z d rx_m14 64 L (.int y :: .int x :: .ref a :: S) (rz_mk h ι, w) = rg Z d rx_m14 65 L S (rz_mk h (rz_up ι a x.toNatClampNeg y), w) := rz_iast rfl c hi hz
theorem g14_65 : rg Z d rx_m14 65 [l0, l1, l2, some (.int x), l4] S (rz_mk h ι, w) = rg Z d rx_m14 66 [l0, l1, l2, some (.int x), l4] (.int x :: S) (rz_mk h ι, w) := rz_s1 fun _ => rfl
theorem g14_66 : rg Z d rx_m14 66 L S (rz_mk h ι, w) = rg Z d rx_m14 67 L (.int 1 :: S) (rz_mk h ι, w) := rz_s1 fun _ => rfl
theorem g14_67 : rg Z d rx_m14 67 [l0, l1, l2, l3, some (.int x)] S (rz_mk h ι, w) = rg Z d rx_m14 69 [l0, l1, l2, l3, some (.int x)] (.int x :: S) (rz_mk h ι, w) := rz_s1 fun _ => rfl
theorem g14_69 : rg Z d rx_m14 69 L (.int y :: .int x :: S) (rz_mk h ι, w) = rg Z d rx_m14 70 L (.int (x <<< (y &&& 31)) :: S) (rz_mk h ι, w) := rz_s1 fun _ => rfl
theorem g14_70 : rg Z d rx_m14 70 L S (rz_mk h ι, w) = rg Z d rx_m14 71 L (.int (-1) :: S) (rz_mk h ι, w) := rz_s1 fun _ => rfl
theorem g14_71 : rg Z d rx_m14 71 L (.int y :: .int x :: S) (rz_mk h ι, w) = rg Z d rx_m14 72 L (.int (x ^^^ y) :: S) (rz_mk h ι, w) := rz_s1 fun _ => rfl
theorem g14_72 : rg Z d rx_m14 72 L (.int y :: .int x :: S) (rz_mk h ι, w) = rg Z d rx_m14 73 L (.int (x &&& y) :: S) (rz_mk h ι, w) := rz_s1 fun _ => rfl
theorem g14_73 : rg Z d rx_m14 73 L [.int x] (rz_mk h ι, w) = some (.inl (some (.int x)), (rz_mk h ι, w)) := rz_reti rfl rfl rfl
theorem g14_74 : rg Z d rx_m14 74 [l0, l1, l2, some (.int z), some (.int x)] S (rz_mk h ι, w) = rg Z d rx_m14 77 [l0, l1, l2, some (.int z), some (.int (x + 1))] S (rz_mk h ι, w) := rz_s1 fun _ => rfl
theorem g14_77 : rg Z d rx_m14 77 L S (rz_mk h ι, w) = rg Z d rx_m14 16 L S (rz_mk h ι, w) := rz_s1 fun _ => rfl
theorem g14_80 : rg Z d rx_m14 80 [l0, l1, l2, some (.int x), l4] S (rz_mk h ι, w) = rg Z d rx_m14 81 [l0, l1, l2, some (.int x), l4] (.int x :: S) (rz_mk h ι, w) := rz_s1 fun _ => rfl
theorem g14_81 : rg Z d rx_m14 81 L [.int x] (rz_mk h ι, w) = some (.inl (some (.int x)), (rz_mk h ι, w)) := rz_reti rfl rfl rfl
theorem e14 : rz_f Z (d + 1) 14 [.ref t0, .int s1] σ = rg Z d rx_m14 0 [some (.ref t0), some (.int s1), none, none, none] [] σ := rz_f_eq rfl (Nat.le_of_ble_eq_true rfl)
theorem g15_0 : rg Z d rx_m15 0 [some (.ref a), l1, l2, l3, l4, l5, l6, l7] S (rz_mk h ι, w) = rg Z d rx_m15 1 [some (.ref a), l1, l2, l3, l4, l5, l6, l7] (.ref a :: S) (rz_mk h ι, w) := rz_s1 fun _ => rfl
theorem g15_1 : rg Z d rx_m15 1 [l0, some (.ref a), l2, l3, l4, l5, l6, l7] S (rz_mk h ι, w) = rg Z d rx_m15 2 [l0, some (.ref a), l2, l3, l4, l5, l6, l7] (.ref a :: S) (rz_mk h ι, w) := rz_s1 fun _ => rfl
theorem g15_2 : rg Z d rx_m15 2 [l0, l1, some (.ref a), l3, l4, l5, l6, l7] S (rz_mk h ι, w) = rg Z d rx_m15 3 [l0, l1, some (.ref a), l3, l4, l5, l6, l7] (.ref a :: S) (rz_mk h ι, w) := rz_s1 fun _ => rfl
theorem g15_3 (c : rz_oc h a 2) : rg Z d rx_m15 3 L (v2 :: v1 :: .ref a :: []) (rz_mk h ι, w) = rz_k true (rz_f Z d 10 [.ref a, v1, v2] (rz_mk h ι, w)) (fun v σ' => rg Z d rx_m15 6 L (v.toList ++ []) σ') := rz_cv (pc := 3) (n := 2) (mi := 10) (S := v2 :: v1 :: .ref a :: []) (rest := []) rfl rfl (Nat.le_of_ble_eq_true rfl) (Nat.le_of_ble_eq_true rfl) c
theorem g15_6 : rg Z d rx_m15 6 L S (rz_mk h ι, w) = rg Z d rx_m15 9 L (.int 255 :: S) (rz_mk h ι, w) := rz_s1 fun _ => rfl
theorem g15_9 : rg Z d rx_m15 9 [l0, l1, l2, some (.int z), l4, l5, l6, l7] (.int x :: S) (rz_mk h ι, w) = rg Z d rx_m15 11 [l0, l1, l2, some (.int z), some (.int x), l5, l6, l7] S (rz_mk h ι, w) := rz_s1 fun _ => rfl
theorem g15_11 : rg Z d rx_m15 11 [l0, l1, l2, l3, some (.int x), l5, l6, l7] S (rz_mk h ι, w) = rg Z d rx_m15 13 [l0, l1, l2, l3, some (.int x), l5, l6, l7] (.int x :: S) (rz_mk h ι, w) := rz_s1 fun _ => rfl
theorem g15_13 : rg Z d rx_m15 13 L (.int x :: S) (rz_mk h ι, w) = if 0 < x then rg Z d rx_m15 16 L S (rz_mk h ι, w) else rg Z d rx_m15 90 L S (rz_mk h ι, w) := rz_if1 (pc := 13) (t := 90) (off := 77) (cc := .le) (by decide) rfl
theorem g15_16 : rg Z d rx_m15 16 L S (rz_mk h ι, w) = rg Z d rx_m15 17 L (.int 0 :: S) (rz_mk h ι, w) := rz_s1 fun _ => rfl
theorem g15_17 : rg Z d rx_m15 17 [l0, l1, l2, l3, some (.int z), l5, l6, l7] (.int x :: S) (rz_mk h ι, w) = rg Z d rx_m15 19 [l0, l1, l2, l3, some (.int z), some (.int x), l6, l7] S (rz_mk h ι, w) := rz_s1 fun _ => rfl
theorem g15_19 : rg Z d rx_m15 19 [l0, l1, l2, l3, l4, some (.int x), l6, l7] S (rz_mk h ι, w) = rg Z d rx_m15 21 [l0, l1, l2, l3, l4, some (.int x), l6, l7] (.int x :: S) (rz_mk h ι, w) := rz_s1 fun _ => rfl
theorem g15_21 : rg Z d rx_m15 21 L S (rz_mk h ι, w) = rg Z d rx_m15 23 L (.int 8 :: S) (rz_mk h ι, w) := rz_s1 fun _ => rfl
theorem g15_23 : rg Z d rx_m15 23 L (.int y :: .int x :: S) (rz_mk h ι, w) = if x < y then rg Z d rx_m15 26 L S (rz_mk h ι, w) else rg Z d rx_m15 84 L S (rz_mk h ι, w) := rz_if2 (pc := 23) (t := 84) (off := 61) (cc := .ge) (by decide) rfl
theorem g15_26 : rg Z d rx_m15 26 [l0, l1, l2, l3, some (.int x), l5, l6, l7] S (rz_mk h ι, w) = rg Z d rx_m15 28 [l0, l1, l2, l3, some (.int x), l5, l6, l7] (.int x :: S) (rz_mk h ι, w) := rz_s1 fun _ => rfl
theorem g15_28 : rg Z d rx_m15 28 [l0, some (.ref a), l2, l3, l4, l5, l6, l7] S (rz_mk h ι, w) = rg Z d rx_m15 29 [l0, some (.ref a), l2, l3, l4, l5, l6, l7] (.ref a :: S) (rz_mk h ι, w) := rz_s1 fun _ => rfl
theorem g15_29 (c : rz_fI h a 8 4) : rg Z d rx_m15 29 L (.ref a :: S) (rz_mk h ι, w) = rg Z d rx_m15 32 L (.int (ι a 4) :: S) (rz_mk h ι, w) := rz_gI rfl (by decide) c
theorem g15_32 : rg Z d rx_m15 32 L S (rz_mk h ι, w) = rg Z d rx_m15 33 L (.int (-1) :: S) (rz_mk h ι, w) := rz_s1 fun _ => rfl
theorem g15_33 : rg Z d rx_m15 33 L (.int y :: .int x :: S) (rz_mk h ι, w) = rg Z d rx_m15 34 L (.int (x ^^^ y) :: S) (rz_mk h ι, w) := rz_s1 fun _ => rfl
theorem g15_34 : rg Z d rx_m15 34 L (.int y :: .int x :: S) (rz_mk h ι, w) = rg Z d rx_m15 35 L (.int (x &&& y) :: S) (rz_mk h ι, w) := rz_s1 fun _ => rfl
theorem g15_35 : rg Z d rx_m15 35 L (.int x :: S) (rz_mk h ι, w) = if x = 0 then rg Z d rx_m15 38 L S (rz_mk h ι, w) else rg Z d rx_m15 84 L S (rz_mk h ι, w) := rz_if1 (pc := 35) (t := 84) (off := 49) (cc := .ne) (by decide) rfl
theorem g15_38 : rg Z d rx_m15 38 [some (.ref a), l1, l2, l3, l4, l5, l6, l7] S (rz_mk h ι, w) = rg Z d rx_m15 39 [some (.ref a), l1, l2, l3, l4, l5, l6, l7] (.ref a :: S) (rz_mk h ι, w) := rz_s1 fun _ => rfl
theorem g15_39 (c : rz_fR h a 2 1) : rg Z d rx_m15 39 L (.ref a :: S) (rz_mk h ι, w) = rg Z d rx_m15 42 L (rz_rv h a 1 :: S) (rz_mk h ι, w) := rz_gR rfl (by decide) c
theorem g15_42 : rg Z d rx_m15 42 [l0, l1, l2, l3, some (.int x), l5, l6, l7] S (rz_mk h ι, w) = rg Z d rx_m15 44 [l0, l1, l2, l3, some (.int x), l5, l6, l7] (.int x :: S) (rz_mk h ι, w) := rz_s1 fun _ => rfl
theorem g15_44 : rg Z d rx_m15 44 L S (rz_mk h ι, w) = rg Z d rx_m15 46 L (.int 8 :: S) (rz_mk h ι, w) := rz_s1 fun _ => rfl
theorem g15_46 : rg Z d rx_m15 46 L (.int y :: .int x :: S) (rz_mk h ι, w) = rg Z d rx_m15 47 L (.int (x * y) :: S) (rz_mk h ι, w) := rz_s1 fun _ => rfl
theorem g15_47 : rg Z d rx_m15 47 [l0, l1, l2, l3, l4, some (.int x), l6, l7] S (rz_mk h ι, w) = rg Z d rx_m15 49 [l0, l1, l2, l3, l4, some (.int x), l6, l7] (.int x :: S) (rz_mk h ι, w) := rz_s1 fun _ => rfl
theorem g15_49 : rg Z d rx_m15 49 L (.int y :: .int x :: S) (rz_mk h ι, w) = rg Z d rx_m15 50 L (.int (x + y) :: S) (rz_mk h ι, w) := rz_s1 fun _ => rfl
theorem g15_50 : rg Z d rx_m15 50 [l0, l1, l2, l3, some (.int x), l5, l6, l7] S (rz_mk h ι, w) = rg Z d rx_m15 52 [l0, l1, l2, l3, some (.int x), l5, l6, l7] (.int x :: S) (rz_mk h ι, w) := rz_s1 fun _ => rfl
theorem g15_52 : rg Z d rx_m15 52 [l0, l1, l2, l3, l4, some (.int x), l6, l7] S (rz_mk h ι, w) = rg Z d rx_m15 54 [l0, l1, l2, l3, l4, some (.int x), l6, l7] (.int x :: S) (rz_mk h ι, w) := rz_s1 fun _ => rfl
theorem g15_54 : rg Z d rx_m15 54 L (.int y :: .int x :: S) (rz_mk h ι, w) = rg Z d rx_m15 55 L (.int (x >>> (y &&& 31)) :: S) (rz_mk h ι, w) := rz_s1 fun _ => rfl
theorem g15_55 : rg Z d rx_m15 55 L S (rz_mk h ι, w) = rg Z d rx_m15 56 L (.int 1 :: S) (rz_mk h ι, w) := rz_s1 fun _ => rfl
theorem g15_56 : rg Z d rx_m15 56 L (.int y :: .int x :: S) (rz_mk h ι, w) = rg Z d rx_m15 57 L (.int (x &&& y) :: S) (rz_mk h ι, w) := rz_s1 fun _ => rfl
theorem g15_57 : rg Z d rx_m15 57 L (.int x :: S) (rz_mk h ι, w) = if x = 0 then rg Z d rx_m15 60 L S (rz_mk h ι, w) else rg Z d rx_m15 64 L S (rz_mk h ι, w) := rz_if1 (pc := 57) (t := 64) (off := 7) (cc := .ne) (by decide) rfl
theorem g15_60 : rg Z d rx_m15 60 L S (rz_mk h ι, w) = rg Z d rx_m15 61 L (.int 0 :: S) (rz_mk h ι, w) := rz_s1 fun _ => rfl
theorem g15_61 : rg Z d rx_m15 61 L S (rz_mk h ι, w) = rg Z d rx_m15 77 L S (rz_mk h ι, w) := rz_s1 fun _ => rfl
theorem g15_64 : rg Z d rx_m15 64 [some (.ref a), l1, l2, l3, l4, l5, l6, l7] S (rz_mk h ι, w) = rg Z d rx_m15 65 [some (.ref a), l1, l2, l3, l4, l5, l6, l7] (.ref a :: S) (rz_mk h ι, w) := rz_s1 fun _ => rfl
theorem g15_65 : rg Z d rx_m15 65 [l0, some (.ref a), l2, l3, l4, l5, l6, l7] S (rz_mk h ι, w) = rg Z d rx_m15 66 [l0, some (.ref a), l2, l3, l4, l5, l6, l7] (.ref a :: S) (rz_mk h ι, w) := rz_s1 fun _ => rfl
theorem g15_66 (c : rz_fI h a 8 4) : rg Z d rx_m15 66 L (.ref a :: S) (rz_mk h ι, w) = rg Z d rx_m15 69 L (.int (ι a 4) :: S) (rz_mk h ι, w) := rz_gI rfl (by decide) c
theorem g15_69 : rg Z d rx_m15 69 [l0, l1, l2, l3, some (.int x), l5, l6, l7] S (rz_mk h ι, w) = rg Z d rx_m15 71 [l0, l1, l2, l3, some (.int x), l5, l6, l7] (.int x :: S) (rz_mk h ι, w) := rz_s1 fun _ => rfl
theorem g15_71 : rg Z d rx_m15 71 [l0, l1, l2, l3, l4, some (.int x), l6, l7] S (rz_mk h ι, w) = rg Z d rx_m15 73 [l0, l1, l2, l3, l4, some (.int x), l6, l7] (.int x :: S) (rz_mk h ι, w) := rz_s1 fun _ => rfl
theorem g15_73 : rg Z d rx_m15 73 [l0, l1, l2, some (.int x), l4, l5, l6, l7] S (rz_mk h ι, w) = rg Z d rx_m15 74 [l0, l1, l2, some (.int x), l4, l5, l6, l7] (.int x :: S) (rz_mk h ι, w) := rz_s1 fun _ => rfl
theorem g15_74 (c : rz_oc h a 2) : rg Z d rx_m15 74 L (v4 :: v3 :: v2 :: v1 :: .ref a :: [.int s0, .ref t1]) (rz_mk h ι, w) = rz_k true (rz_f Z d 16 [.ref a, v1, v2, v3, v4] (rz_mk h ι, w)) (fun v σ' => rg Z d rx_m15 77 L (v.toList ++ [.int s0, .ref t1]) σ') := rz_cv (pc := 74) (n := 4) (mi := 16) (S := v4 :: v3 :: v2 :: v1 :: .ref a :: [.int s0, .ref t1]) (rest := [.int s0, .ref t1]) rfl rfl (Nat.le_of_ble_eq_true rfl) (Nat.le_of_ble_eq_true rfl) c
theorem g15_77 (c : rz_ar h a 0) (hi : rz_ix x (rz_ln h a)) (hz : Z.2.1 ≤ a) : rg Z d rx_m15 77 L (.int y :: .int x :: .ref a :: S) (rz_mk h ι, w) = rg Z d rx_m15 78 L S (rz_mk h (rz_up ι a x.toNatClampNeg y), w) := rz_iast rfl c hi hz
theorem g15_78 : rg Z d rx_m15 78 [l0, l1, l2, l3, some (.int z), some (.int x), l6, l7] S (rz_mk h ι, w) = rg Z d rx_m15 81 [l0, l1, l2, l3, some (.int z), some (.int (x + 1)), l6, l7] S (rz_mk h ι, w) := rz_s1 fun _ => rfl
theorem g15_81 : rg Z d rx_m15 81 L S (rz_mk h ι, w) = rg Z d rx_m15 19 L S (rz_mk h ι, w) := rz_s1 fun _ => rfl
theorem g15_84 : rg Z d rx_m15 84 [l0, l1, l2, some (.int z), some (.int x), l5, l6, l7] S (rz_mk h ι, w) = rg Z d rx_m15 87 [l0, l1, l2, some (.int z), some (.int (x + (-1))), l5, l6, l7] S (rz_mk h ι, w) := rz_s1 fun _ => rfl
theorem g15_87 : rg Z d rx_m15 87 L S (rz_mk h ι, w) = rg Z d rx_m15 11 L S (rz_mk h ι, w) := rz_s1 fun _ => rfl
theorem g15_90 : rg Z d rx_m15 90 L S (rz_mk h ι, w) = rg Z d rx_m15 91 L (.int 0 :: S) (rz_mk h ι, w) := rz_s1 fun _ => rfl
theorem g15_91 : rg Z d rx_m15 91 [l0, l1, l2, some (.int z), l4, l5, l6, l7] (.int x :: S) (rz_mk h ι, w) = rg Z d rx_m15 93 [l0, l1, l2, some (.int z), some (.int x), l5, l6, l7] S (rz_mk h ι, w) := rz_s1 fun _ => rfl
theorem g15_93 : rg Z d rx_m15 93 [some (.ref a), l1, l2, l3, l4, l5, l6, l7] S (rz_mk h ι, w) = rg Z d rx_m15 94 [some (.ref a), l1, l2, l3, l4, l5, l6, l7] (.ref a :: S) (rz_mk h ι, w) := rz_s1 fun _ => rfl
theorem g15_94 : rg Z d rx_m15 94 [l0, some (.ref a), l2, l3, l4, l5, l6, l7] S (rz_mk h ι, w) = rg Z d rx_m15 95 [l0, some (.ref a), l2, l3, l4, l5, l6, l7] (.ref a :: S) (rz_mk h ι, w) := rz_s1 fun _ => rfl
theorem g15_95 (c : rz_fI h a 8 4) : rg Z d rx_m15 95 L (.ref a :: S) (rz_mk h ι, w) = rg Z d rx_m15 98 L (.int (ι a 4) :: S) (rz_mk h ι, w) := rz_gI rfl (by decide) c
theorem g15_98 : rg Z d rx_m15 98 L S (rz_mk h ι, w) = rg Z d rx_m15 99 L (.int 0 :: S) (rz_mk h ι, w) := rz_s1 fun _ => rfl
theorem g15_99 : rg Z d rx_m15 99 L S (rz_mk h ι, w) = rg Z d rx_m15 100 L (.int (-1) :: S) (rz_mk h ι, w) := rz_s1 fun _ => rfl
theorem g15_100 : rg Z d rx_m15 100 [l0, l1, l2, some (.int x), l4, l5, l6, l7] S (rz_mk h ι, w) = rg Z d rx_m15 101 [l0, l1, l2, some (.int x), l4, l5, l6, l7] (.int x :: S) (rz_mk h ι, w) := rz_s1 fun _ => rfl
theorem g15_101 (c : rz_oc h a 2) : rg Z d rx_m15 101 L (v4 :: v3 :: v2 :: v1 :: .ref a :: []) (rz_mk h ι, w) = rz_k true (rz_f Z d 17 [.ref a, v1, v2, v3, v4] (rz_mk h ι, w)) (fun v σ' => rg Z d rx_m15 104 L (v.toList ++ []) σ') := rz_cv (pc := 101) (n := 4) (mi := 17) (S := v4 :: v3 :: v2 :: v1 :: .ref a :: []) (rest := []) rfl rfl (Nat.le_of_ble_eq_true rfl) (Nat.le_of_ble_eq_true rfl) c
theorem g15_104 : rg Z d rx_m15 104 [l0, l1, l2, l3, some (.int z), l5, l6, l7] (.int x :: S) (rz_mk h ι, w) = rg Z d rx_m15 106 [l0, l1, l2, l3, some (.int z), some (.int x), l6, l7] S (rz_mk h ι, w) := rz_s1 fun _ => rfl
theorem g15_106 : rg Z d rx_m15 106 L S (rz_mk h ι, w) = rg Z d rx_m15 107 L (.int 0 :: S) (rz_mk h ι, w) := rz_s1 fun _ => rfl
theorem g15_107 : rg Z d rx_m15 107 [l0, l1, l2, l3, l4, some (.int z), l6, l7] (.int x :: S) (rz_mk h ι, w) = rg Z d rx_m15 109 [l0, l1, l2, l3, l4, some (.int z), some (.int x), l7] S (rz_mk h ι, w) := rz_s1 fun _ => rfl
theorem g15_109 : rg Z d rx_m15 109 L S (rz_mk h ι, w) = rg Z d rx_m15 110 L (.int 0 :: S) (rz_mk h ι, w) := rz_s1 fun _ => rfl
theorem g15_110 : rg Z d rx_m15 110 [l0, l1, l2, l3, l4, l5, some (.int z), l7] (.int x :: S) (rz_mk h ι, w) = rg Z d rx_m15 112 [l0, l1, l2, l3, l4, l5, some (.int z), some (.int x)] S (rz_mk h ι, w) := rz_s1 fun _ => rfl
theorem g15_112 : rg Z d rx_m15 112 [l0, l1, l2, l3, l4, l5, l6, some (.int x)] S (rz_mk h ι, w) = rg Z d rx_m15 114 [l0, l1, l2, l3, l4, l5, l6, some (.int x)] (.int x :: S) (rz_mk h ι, w) := rz_s1 fun _ => rfl
theorem g15_114 : rg Z d rx_m15 114 L S (rz_mk h ι, w) = rg Z d rx_m15 116 L (.int 8 :: S) (rz_mk h ι, w) := rz_s1 fun _ => rfl
theorem g15_116 : rg Z d rx_m15 116 L (.int y :: .int x :: S) (rz_mk h ι, w) = if x < y then rg Z d rx_m15 119 L S (rz_mk h ι, w) else rg Z d rx_m15 167 L S (rz_mk h ι, w) := rz_if2 (pc := 116) (t := 167) (off := 51) (cc := .ge) (by decide) rfl
theorem g15_119 : rg Z d rx_m15 119 [l0, l1, l2, l3, l4, some (.int x), l6, l7] S (rz_mk h ι, w) = rg Z d rx_m15 121 [l0, l1, l2, l3, l4, some (.int x), l6, l7] (.int x :: S) (rz_mk h ι, w) := rz_s1 fun _ => rfl
theorem g15_121 : rg Z d rx_m15 121 L S (rz_mk h ι, w) = rg Z d rx_m15 122 L (.int (-1) :: S) (rz_mk h ι, w) := rz_s1 fun _ => rfl
theorem g15_122 : rg Z d rx_m15 122 L (.int y :: .int x :: S) (rz_mk h ι, w) = if x = y then rg Z d rx_m15 167 L S (rz_mk h ι, w) else rg Z d rx_m15 125 L S (rz_mk h ι, w) := rz_if2 (pc := 122) (t := 167) (off := 45) (cc := .eq) (by decide) rfl
theorem g15_125 : rg Z d rx_m15 125 [some (.ref a), l1, l2, l3, l4, l5, l6, l7] S (rz_mk h ι, w) = rg Z d rx_m15 126 [some (.ref a), l1, l2, l3, l4, l5, l6, l7] (.ref a :: S) (rz_mk h ι, w) := rz_s1 fun _ => rfl
theorem g15_126 (c : rz_fR h a 2 5) : rg Z d rx_m15 126 L (.ref a :: S) (rz_mk h ι, w) = rg Z d rx_m15 129 L (rz_rv h a 5 :: S) (rz_mk h ι, w) := rz_gR rfl (by decide) c
theorem g15_129 : rg Z d rx_m15 129 [l0, l1, l2, l3, l4, l5, l6, some (.int x)] S (rz_mk h ι, w) = rg Z d rx_m15 131 [l0, l1, l2, l3, l4, l5, l6, some (.int x)] (.int x :: S) (rz_mk h ι, w) := rz_s1 fun _ => rfl
theorem g15_131 : rg Z d rx_m15 131 [l0, l1, l2, l3, l4, some (.int x), l6, l7] S (rz_mk h ι, w) = rg Z d rx_m15 133 [l0, l1, l2, l3, l4, some (.int x), l6, l7] (.int x :: S) (rz_mk h ι, w) := rz_s1 fun _ => rfl
theorem g15_133 (c : rz_ar h a 0) (hi : rz_ix x (rz_ln h a)) (hz : Z.2.1 ≤ a) : rg Z d rx_m15 133 L (.int y :: .int x :: .ref a :: S) (rz_mk h ι, w) = rg Z d rx_m15 134 L S (rz_mk h (rz_up ι a x.toNatClampNeg y), w) := rz_iast rfl c hi hz
theorem g15_134 : rg Z d rx_m15 134 [l0, l1, l2, some (.int z), some (.int x), l5, l6, l7] S (rz_mk h ι, w) = rg Z d rx_m15 137 [l0, l1, l2, some (.int z), some (.int (x + 1)), l5, l6, l7] S (rz_mk h ι, w) := rz_s1 fun _ => rfl
theorem g15_137 : rg Z d rx_m15 137 [l0, l1, l2, l3, l4, l5, some (.int x), l7] S (rz_mk h ι, w) = rg Z d rx_m15 139 [l0, l1, l2, l3, l4, l5, some (.int x), l7] (.int x :: S) (rz_mk h ι, w) := rz_s1 fun _ => rfl
theorem g15_139 : rg Z d rx_m15 139 L S (rz_mk h ι, w) = rg Z d rx_m15 140 L (.int 1 :: S) (rz_mk h ι, w) := rz_s1 fun _ => rfl
theorem g15_140 : rg Z d rx_m15 140 [l0, l1, l2, l3, l4, some (.int x), l6, l7] S (rz_mk h ι, w) = rg Z d rx_m15 142 [l0, l1, l2, l3, l4, some (.int x), l6, l7] (.int x :: S) (rz_mk h ι, w) := rz_s1 fun _ => rfl
theorem g15_142 : rg Z d rx_m15 142 L (.int y :: .int x :: S) (rz_mk h ι, w) = rg Z d rx_m15 143 L (.int (x <<< (y &&& 31)) :: S) (rz_mk h ι, w) := rz_s1 fun _ => rfl
theorem g15_143 : rg Z d rx_m15 143 L (.int y :: .int x :: S) (rz_mk h ι, w) = rg Z d rx_m15 144 L (.int (x ||| y) :: S) (rz_mk h ι, w) := rz_s1 fun _ => rfl
theorem g15_144 : rg Z d rx_m15 144 [l0, l1, l2, l3, l4, some (.int z), l6, l7] (.int x :: S) (rz_mk h ι, w) = rg Z d rx_m15 146 [l0, l1, l2, l3, l4, some (.int z), some (.int x), l7] S (rz_mk h ι, w) := rz_s1 fun _ => rfl
theorem g15_146 : rg Z d rx_m15 146 [some (.ref a), l1, l2, l3, l4, l5, l6, l7] S (rz_mk h ι, w) = rg Z d rx_m15 147 [some (.ref a), l1, l2, l3, l4, l5, l6, l7] (.ref a :: S) (rz_mk h ι, w) := rz_s1 fun _ => rfl
theorem g15_147 : rg Z d rx_m15 147 [l0, some (.ref a), l2, l3, l4, l5, l6, l7] S (rz_mk h ι, w) = rg Z d rx_m15 148 [l0, some (.ref a), l2, l3, l4, l5, l6, l7] (.ref a :: S) (rz_mk h ι, w) := rz_s1 fun _ => rfl
theorem g15_148 (c : rz_fI h a 8 4) : rg Z d rx_m15 148 L (.ref a :: S) (rz_mk h ι, w) = rg Z d rx_m15 151 L (.int (ι a 4) :: S) (rz_mk h ι, w) := rz_gI rfl (by decide) c
theorem g15_151 : rg Z d rx_m15 151 [l0, l1, l2, l3, l4, l5, some (.int x), l7] S (rz_mk h ι, w) = rg Z d rx_m15 153 [l0, l1, l2, l3, l4, l5, some (.int x), l7] (.int x :: S) (rz_mk h ι, w) := rz_s1 fun _ => rfl
theorem g15_153 : rg Z d rx_m15 153 [l0, l1, l2, l3, l4, some (.int x), l6, l7] S (rz_mk h ι, w) = rg Z d rx_m15 155 [l0, l1, l2, l3, l4, some (.int x), l6, l7] (.int x :: S) (rz_mk h ι, w) := rz_s1 fun _ => rfl
theorem g15_155 : rg Z d rx_m15 155 [l0, l1, l2, some (.int x), l4, l5, l6, l7] S (rz_mk h ι, w) = rg Z d rx_m15 156 [l0, l1, l2, some (.int x), l4, l5, l6, l7] (.int x :: S) (rz_mk h ι, w) := rz_s1 fun _ => rfl
theorem g15_156 (c : rz_oc h a 2) : rg Z d rx_m15 156 L (v4 :: v3 :: v2 :: v1 :: .ref a :: []) (rz_mk h ι, w) = rz_k true (rz_f Z d 17 [.ref a, v1, v2, v3, v4] (rz_mk h ι, w)) (fun v σ' => rg Z d rx_m15 159 L (v.toList ++ []) σ') := rz_cv (pc := 156) (n := 4) (mi := 17) (S := v4 :: v3 :: v2 :: v1 :: .ref a :: []) (rest := []) rfl rfl (Nat.le_of_ble_eq_true rfl) (Nat.le_of_ble_eq_true rfl) c
theorem g15_159 : rg Z d rx_m15 159 [l0, l1, l2, l3, some (.int z), l5, l6, l7] (.int x :: S) (rz_mk h ι, w) = rg Z d rx_m15 161 [l0, l1, l2, l3, some (.int z), some (.int x), l6, l7] S (rz_mk h ι, w) := rz_s1 fun _ => rfl
theorem g15_161 : rg Z d rx_m15 161 [l0, l1, l2, l3, l4, l5, some (.int z), some (.int x)] S (rz_mk h ι, w) = rg Z d rx_m15 164 [l0, l1, l2, l3, l4, l5, some (.int z), some (.int (x + 1))] S (rz_mk h ι, w) := rz_s1 fun _ => rfl
theorem g15_164 : rg Z d rx_m15 164 L S (rz_mk h ι, w) = rg Z d rx_m15 112 L S (rz_mk h ι, w) := rz_s1 fun _ => rfl
theorem g15_167 : rg Z d rx_m15 167 [l0, l1, l2, l3, some (.int x), l5, l6, l7] S (rz_mk h ι, w) = rg Z d rx_m15 169 [l0, l1, l2, l3, some (.int x), l5, l6, l7] (.int x :: S) (rz_mk h ι, w) := rz_s1 fun _ => rfl
theorem g15_169 : rg Z d rx_m15 169 L [.int x] (rz_mk h ι, w) = some (.inl (some (.int x)), (rz_mk h ι, w)) := rz_reti rfl rfl rfl
theorem e15 : rz_f Z (d + 1) 15 [.ref t0, .ref t1, .ref t2, .int s3] σ = rg Z d rx_m15 0 [some (.ref t0), some (.ref t1), some (.ref t2), some (.int s3), none, none, none, none] [] σ := rz_f_eq rfl (Nat.le_of_ble_eq_true rfl)
theorem g16_0 : rg Z d rx_m16 0 [some (.ref a), l1, l2, l3, l4, l5] S (rz_mk h ι, w) = rg Z d rx_m16 1 [some (.ref a), l1, l2, l3, l4, l5] (.ref a :: S) (rz_mk h ι, w) := rz_s1 fun _ => rfl
theorem g16_1 : rg Z d rx_m16 1 [l0, some (.int x), l2, l3, l4, l5] S (rz_mk h ι, w) = rg Z d rx_m16 2 [l0, some (.int x), l2, l3, l4, l5] (.int x :: S) (rz_mk h ι, w) := rz_s1 fun _ => rfl
theorem g16_2 : rg Z d rx_m16 2 [l0, l1, some (.int x), l3, l4, l5] S (rz_mk h ι, w) = rg Z d rx_m16 3 [l0, l1, some (.int x), l3, l4, l5] (.int x :: S) (rz_mk h ι, w) := rz_s1 fun _ => rfl
theorem g16_3 : rg Z d rx_m16 3 [l0, l1, l2, some (.int x), l4, l5] S (rz_mk h ι, w) = rg Z d rx_m16 4 [l0, l1, l2, some (.int x), l4, l5] (.int x :: S) (rz_mk h ι, w) := rz_s1 fun _ => rfl
theorem g16_4 : rg Z d rx_m16 4 [l0, l1, l2, l3, some (.int x), l5] S (rz_mk h ι, w) = rg Z d rx_m16 6 [l0, l1, l2, l3, some (.int x), l5] (.int x :: S) (rz_mk h ι, w) := rz_s1 fun _ => rfl
theorem g16_6 (c : rz_oc h a 2) : rg Z d rx_m16 6 L (v4 :: v3 :: v2 :: v1 :: .ref a :: []) (rz_mk h ι, w) = rz_k true (rz_f Z d 17 [.ref a, v1, v2, v3, v4] (rz_mk h ι, w)) (fun v σ' => rg Z d rx_m16 9 L (v.toList ++ []) σ') := rz_cv (pc := 6) (n := 4) (mi := 17) (S := v4 :: v3 :: v2 :: v1 :: .ref a :: []) (rest := []) rfl rfl (Nat.le_of_ble_eq_true rfl) (Nat.le_of_ble_eq_true rfl) c
theorem g16_9 : rg Z d rx_m16 9 [l0, l1, l2, l3, some (.int z), l5] (.int x :: S) (rz_mk h ι, w) = rg Z d rx_m16 11 [l0, l1, l2, l3, some (.int z), some (.int x)] S (rz_mk h ι, w) := rz_s1 fun _ => rfl
theorem g16_11 : rg Z d rx_m16 11 [l0, l1, l2, l3, l4, some (.int x)] S (rz_mk h ι, w) = rg Z d rx_m16 13 [l0, l1, l2, l3, l4, some (.int x)] (.int x :: S) (rz_mk h ι, w) := rz_s1 fun _ => rfl
theorem g16_13 : rg Z d rx_m16 13 L S (rz_mk h ι, w) = rg Z d rx_m16 14 L (.int (-1) :: S) (rz_mk h ι, w) := rz_s1 fun _ => rfl
theorem g16_14 : rg Z d rx_m16 14 L (.int y :: .int x :: S) (rz_mk h ι, w) = if x = y then rg Z d rx_m16 17 L S (rz_mk h ι, w) else rg Z d rx_m16 21 L S (rz_mk h ι, w) := rz_if2 (pc := 14) (t := 21) (off := 7) (cc := .ne) (by decide) rfl
theorem g16_17 : rg Z d rx_m16 17 L S (rz_mk h ι, w) = rg Z d rx_m16 18 L (.int 1 :: S) (rz_mk h ι, w) := rz_s1 fun _ => rfl
theorem g16_18 : rg Z d rx_m16 18 L S (rz_mk h ι, w) = rg Z d rx_m16 40 L S (rz_mk h ι, w) := rz_s1 fun _ => rfl
theorem g16_21 : rg Z d rx_m16 21 L S (rz_mk h ι, w) = rg Z d rx_m16 22 L (.int 1 :: S) (rz_mk h ι, w) := rz_s1 fun _ => rfl
theorem g16_22 : rg Z d rx_m16 22 [some (.ref a), l1, l2, l3, l4, l5] S (rz_mk h ι, w) = rg Z d rx_m16 23 [some (.ref a), l1, l2, l3, l4, l5] (.ref a :: S) (rz_mk h ι, w) := rz_s1 fun _ => rfl
theorem g16_23 (c : rz_fR h a 2 1) : rg Z d rx_m16 23 L (.ref a :: S) (rz_mk h ι, w) = rg Z d rx_m16 26 L (rz_rv h a 1 :: S) (rz_mk h ι, w) := rz_gR rfl (by decide) c
theorem g16_26 : rg Z d rx_m16 26 [l0, l1, some (.int x), l3, l4, l5] S (rz_mk h ι, w) = rg Z d rx_m16 27 [l0, l1, some (.int x), l3, l4, l5] (.int x :: S) (rz_mk h ι, w) := rz_s1 fun _ => rfl
theorem g16_27 : rg Z d rx_m16 27 L S (rz_mk h ι, w) = rg Z d rx_m16 28 L (.int 1 :: S) (rz_mk h ι, w) := rz_s1 fun _ => rfl
theorem g16_28 : rg Z d rx_m16 28 [l0, l1, l2, l3, l4, some (.int x)] S (rz_mk h ι, w) = rg Z d rx_m16 30 [l0, l1, l2, l3, l4, some (.int x)] (.int x :: S) (rz_mk h ι, w) := rz_s1 fun _ => rfl
theorem g16_30 : rg Z d rx_m16 30 L (.int y :: .int x :: S) (rz_mk h ι, w) = rg Z d rx_m16 31 L (.int (x <<< (y &&& 31)) :: S) (rz_mk h ι, w) := rz_s1 fun _ => rfl
theorem g16_31 : rg Z d rx_m16 31 L (.int y :: .int x :: S) (rz_mk h ι, w) = rg Z d rx_m16 32 L (.int (x ||| y) :: S) (rz_mk h ι, w) := rz_s1 fun _ => rfl
theorem g16_32 : rg Z d rx_m16 32 L S (rz_mk h ι, w) = rg Z d rx_m16 34 L (.int 8 :: S) (rz_mk h ι, w) := rz_s1 fun _ => rfl
theorem g16_34 : rg Z d rx_m16 34 L (.int y :: .int x :: S) (rz_mk h ι, w) = rg Z d rx_m16 35 L (.int (x * y) :: S) (rz_mk h ι, w) := rz_s1 fun _ => rfl
theorem g16_35 : rg Z d rx_m16 35 [l0, l1, l2, l3, l4, some (.int x)] S (rz_mk h ι, w) = rg Z d rx_m16 37 [l0, l1, l2, l3, l4, some (.int x)] (.int x :: S) (rz_mk h ι, w) := rz_s1 fun _ => rfl
theorem g16_37 : rg Z d rx_m16 37 L (.int y :: .int x :: S) (rz_mk h ι, w) = rg Z d rx_m16 38 L (.int (x + y) :: S) (rz_mk h ι, w) := rz_s1 fun _ => rfl
theorem g16_38 (c : rz_ar h a 0) (hi : rz_ix x (rz_ln h a)) : rg Z d rx_m16 38 L (.int x :: .ref a :: S) (rz_mk h ι, w) = rg Z d rx_m16 39 L (.int (ι a x.toNatClampNeg) :: S) (rz_mk h ι, w) := rz_iald rfl c hi
theorem g16_39 : rg Z d rx_m16 39 L (.int y :: .int x :: S) (rz_mk h ι, w) = rg Z d rx_m16 40 L (.int (x + y) :: S) (rz_mk h ι, w) := rz_s1 fun _ => rfl
theorem g16_40 : rg Z d rx_m16 40 L [.int x] (rz_mk h ι, w) = some (.inl (some (.int x)), (rz_mk h ι, w)) := rz_reti rfl rfl rfl
theorem e16 : rz_f Z (d + 1) 16 [.ref t0, .int s1, .int s2, .int s3, .int s4] σ = rg Z d rx_m16 0 [some (.ref t0), some (.int s1), some (.int s2), some (.int s3), some (.int s4), none] [] σ := rz_f_eq rfl (Nat.le_of_ble_eq_true rfl)
theorem g17_0 : rg Z d rx_m17 0 L S (rz_mk h ι, w) = rg Z d rx_m17 1 L (.int (-1) :: S) (rz_mk h ι, w) := rz_s1 fun _ => rfl
theorem g17_1 : rg Z d rx_m17 1 [l0, l1, l2, l3, some (.int z), l5, l6, l7, l8, l9] (.int x :: S) (rz_mk h ι, w) = rg Z d rx_m17 3 [l0, l1, l2, l3, some (.int z), some (.int x), l6, l7, l8, l9] S (rz_mk h ι, w) := rz_s1 fun _ => rfl
theorem g17_3 : rg Z d rx_m17 3 L S (rz_mk h ι, w) = rg Z d rx_m17 4 L (.int 0 :: S) (rz_mk h ι, w) := rz_s1 fun _ => rfl
theorem g17_4 : rg Z d rx_m17 4 [l0, l1, l2, l3, l4, some (.int z), l6, l7, l8, l9] (.int x :: S) (rz_mk h ι, w) = rg Z d rx_m17 6 [l0, l1, l2, l3, l4, some (.int z), some (.int x), l7, l8, l9] S (rz_mk h ι, w) := rz_s1 fun _ => rfl
theorem g17_6 : rg Z d rx_m17 6 L S (rz_mk h ι, w) = rg Z d rx_m17 7 L (.int 0 :: S) (rz_mk h ι, w) := rz_s1 fun _ => rfl
theorem g17_7 : rg Z d rx_m17 7 [l0, l1, l2, l3, l4, l5, some (.int z), l7, l8, l9] (.int x :: S) (rz_mk h ι, w) = rg Z d rx_m17 9 [l0, l1, l2, l3, l4, l5, some (.int z), some (.int x), l8, l9] S (rz_mk h ι, w) := rz_s1 fun _ => rfl
theorem g17_9 : rg Z d rx_m17 9 [l0, l1, l2, l3, l4, l5, l6, some (.int x), l8, l9] S (rz_mk h ι, w) = rg Z d rx_m17 11 [l0, l1, l2, l3, l4, l5, l6, some (.int x), l8, l9] (.int x :: S) (rz_mk h ι, w) := rz_s1 fun _ => rfl
theorem g17_11 : rg Z d rx_m17 11 L S (rz_mk h ι, w) = rg Z d rx_m17 13 L (.int 8 :: S) (rz_mk h ι, w) := rz_s1 fun _ => rfl
theorem g17_13 : rg Z d rx_m17 13 L (.int y :: .int x :: S) (rz_mk h ι, w) = if x < y then rg Z d rx_m17 16 L S (rz_mk h ι, w) else rg Z d rx_m17 119 L S (rz_mk h ι, w) := rz_if2 (pc := 13) (t := 119) (off := 106) (cc := .ge) (by decide) rfl
theorem g17_16 : rg Z d rx_m17 16 [l0, some (.int x), l2, l3, l4, l5, l6, l7, l8, l9] S (rz_mk h ι, w) = rg Z d rx_m17 17 [l0, some (.int x), l2, l3, l4, l5, l6, l7, l8, l9] (.int x :: S) (rz_mk h ι, w) := rz_s1 fun _ => rfl
theorem g17_17 : rg Z d rx_m17 17 [l0, l1, l2, l3, l4, l5, l6, some (.int x), l8, l9] S (rz_mk h ι, w) = rg Z d rx_m17 19 [l0, l1, l2, l3, l4, l5, l6, some (.int x), l8, l9] (.int x :: S) (rz_mk h ι, w) := rz_s1 fun _ => rfl
theorem g17_19 : rg Z d rx_m17 19 L (.int y :: .int x :: S) (rz_mk h ι, w) = rg Z d rx_m17 20 L (.int (x >>> (y &&& 31)) :: S) (rz_mk h ι, w) := rz_s1 fun _ => rfl
theorem g17_20 : rg Z d rx_m17 20 L S (rz_mk h ι, w) = rg Z d rx_m17 21 L (.int 1 :: S) (rz_mk h ι, w) := rz_s1 fun _ => rfl
theorem g17_21 : rg Z d rx_m17 21 L (.int y :: .int x :: S) (rz_mk h ι, w) = rg Z d rx_m17 22 L (.int (x &&& y) :: S) (rz_mk h ι, w) := rz_s1 fun _ => rfl
theorem g17_22 : rg Z d rx_m17 22 L S (rz_mk h ι, w) = rg Z d rx_m17 23 L (.int 1 :: S) (rz_mk h ι, w) := rz_s1 fun _ => rfl
theorem g17_23 : rg Z d rx_m17 23 L (.int y :: .int x :: S) (rz_mk h ι, w) = if x = y then rg Z d rx_m17 26 L S (rz_mk h ι, w) else rg Z d rx_m17 39 L S (rz_mk h ι, w) := rz_if2 (pc := 23) (t := 39) (off := 16) (cc := .ne) (by decide) rfl
theorem g17_26 : rg Z d rx_m17 26 [l0, l1, some (.int x), l3, l4, l5, l6, l7, l8, l9] S (rz_mk h ι, w) = rg Z d rx_m17 27 [l0, l1, some (.int x), l3, l4, l5, l6, l7, l8, l9] (.int x :: S) (rz_mk h ι, w) := rz_s1 fun _ => rfl
theorem g17_27 : rg Z d rx_m17 27 [l0, l1, l2, l3, l4, l5, l6, some (.int x), l8, l9] S (rz_mk h ι, w) = rg Z d rx_m17 29 [l0, l1, l2, l3, l4, l5, l6, some (.int x), l8, l9] (.int x :: S) (rz_mk h ι, w) := rz_s1 fun _ => rfl
theorem g17_29 : rg Z d rx_m17 29 L (.int y :: .int x :: S) (rz_mk h ι, w) = rg Z d rx_m17 30 L (.int (x >>> (y &&& 31)) :: S) (rz_mk h ι, w) := rz_s1 fun _ => rfl
theorem g17_30 : rg Z d rx_m17 30 L S (rz_mk h ι, w) = rg Z d rx_m17 31 L (.int 1 :: S) (rz_mk h ι, w) := rz_s1 fun _ => rfl
theorem g17_31 : rg Z d rx_m17 31 L (.int y :: .int x :: S) (rz_mk h ι, w) = rg Z d rx_m17 32 L (.int (x &&& y) :: S) (rz_mk h ι, w) := rz_s1 fun _ => rfl
theorem g17_32 : rg Z d rx_m17 32 L (.int x :: S) (rz_mk h ι, w) = if x = 0 then rg Z d rx_m17 35 L S (rz_mk h ι, w) else rg Z d rx_m17 39 L S (rz_mk h ι, w) := rz_if1 (pc := 32) (t := 39) (off := 7) (cc := .ne) (by decide) rfl
theorem g17_35 : rg Z d rx_m17 35 L S (rz_mk h ι, w) = rg Z d rx_m17 36 L (.int 1 :: S) (rz_mk h ι, w) := rz_s1 fun _ => rfl
theorem g17_36 : rg Z d rx_m17 36 L S (rz_mk h ι, w) = rg Z d rx_m17 40 L S (rz_mk h ι, w) := rz_s1 fun _ => rfl
theorem g17_39 : rg Z d rx_m17 39 L S (rz_mk h ι, w) = rg Z d rx_m17 40 L (.int 0 :: S) (rz_mk h ι, w) := rz_s1 fun _ => rfl
theorem g17_40 : rg Z d rx_m17 40 [l0, l1, l2, l3, l4, l5, l6, some (.int z), l8, l9] (.int x :: S) (rz_mk h ι, w) = rg Z d rx_m17 42 [l0, l1, l2, l3, l4, l5, l6, some (.int z), some (.int x), l9] S (rz_mk h ι, w) := rz_s1 fun _ => rfl
theorem g17_42 : rg Z d rx_m17 42 [l0, l1, l2, l3, l4, l5, l6, l7, some (.int x), l9] S (rz_mk h ι, w) = rg Z d rx_m17 44 [l0, l1, l2, l3, l4, l5, l6, l7, some (.int x), l9] (.int x :: S) (rz_mk h ι, w) := rz_s1 fun _ => rfl
theorem g17_44 : rg Z d rx_m17 44 L (.int x :: S) (rz_mk h ι, w) = if x = 0 then rg Z d rx_m17 113 L S (rz_mk h ι, w) else rg Z d rx_m17 47 L S (rz_mk h ι, w) := rz_if1 (pc := 44) (t := 113) (off := 69) (cc := .eq) (by decide) rfl
theorem g17_47 : rg Z d rx_m17 47 [l0, l1, l2, some (.int x), l4, l5, l6, l7, l8, l9] S (rz_mk h ι, w) = rg Z d rx_m17 48 [l0, l1, l2, some (.int x), l4, l5, l6, l7, l8, l9] (.int x :: S) (rz_mk h ι, w) := rz_s1 fun _ => rfl
theorem g17_48 : rg Z d rx_m17 48 L S (rz_mk h ι, w) = rg Z d rx_m17 49 L (.int (-1) :: S) (rz_mk h ι, w) := rz_s1 fun _ => rfl
theorem g17_49 : rg Z d rx_m17 49 L (.int y :: .int x :: S) (rz_mk h ι, w) = if x = y then rg Z d rx_m17 69 L S (rz_mk h ι, w) else rg Z d rx_m17 52 L S (rz_mk h ι, w) := rz_if2 (pc := 49) (t := 69) (off := 20) (cc := .eq) (by decide) rfl
theorem g17_52 : rg Z d rx_m17 52 [some (.ref a), l1, l2, l3, l4, l5, l6, l7, l8, l9] S (rz_mk h ι, w) = rg Z d rx_m17 53 [some (.ref a), l1, l2, l3, l4, l5, l6, l7, l8, l9] (.ref a :: S) (rz_mk h ι, w) := rz_s1 fun _ => rfl
theorem g17_53 (c : rz_fR h a 2 0) : rg Z d rx_m17 53 L (.ref a :: S) (rz_mk h ι, w) = rg Z d rx_m17 56 L (rz_rv h a 0 :: S) (rz_mk h ι, w) := rz_gR rfl (by decide) c
theorem g17_56 : rg Z d rx_m17 56 [l0, l1, l2, l3, l4, l5, l6, some (.int x), l8, l9] S (rz_mk h ι, w) = rg Z d rx_m17 58 [l0, l1, l2, l3, l4, l5, l6, some (.int x), l8, l9] (.int x :: S) (rz_mk h ι, w) := rz_s1 fun _ => rfl
theorem g17_58 : rg Z d rx_m17 58 L S (rz_mk h ι, w) = rg Z d rx_m17 60 L (.int 8 :: S) (rz_mk h ι, w) := rz_s1 fun _ => rfl
theorem g17_60 : rg Z d rx_m17 60 L (.int y :: .int x :: S) (rz_mk h ι, w) = rg Z d rx_m17 61 L (.int (x * y) :: S) (rz_mk h ι, w) := rz_s1 fun _ => rfl
theorem g17_61 : rg Z d rx_m17 61 [l0, l1, l2, some (.int x), l4, l5, l6, l7, l8, l9] S (rz_mk h ι, w) = rg Z d rx_m17 62 [l0, l1, l2, some (.int x), l4, l5, l6, l7, l8, l9] (.int x :: S) (rz_mk h ι, w) := rz_s1 fun _ => rfl
theorem g17_62 : rg Z d rx_m17 62 L (.int y :: .int x :: S) (rz_mk h ι, w) = rg Z d rx_m17 63 L (.int (x + y) :: S) (rz_mk h ι, w) := rz_s1 fun _ => rfl
theorem g17_63 (c : rz_ar h a 0) (hi : rz_ix x (rz_ln h a)) : rg Z d rx_m17 63 L (.int x :: .ref a :: S) (rz_mk h ι, w) = rg Z d rx_m17 64 L (.int (ι a x.toNatClampNeg) :: S) (rz_mk h ι, w) := rz_iald rfl c hi
theorem g17_64 : rg Z d rx_m17 64 [l0, l1, l2, l3, some (.int x), l5, l6, l7, l8, l9] S (rz_mk h ι, w) = rg Z d rx_m17 66 [l0, l1, l2, l3, some (.int x), l5, l6, l7, l8, l9] (.int x :: S) (rz_mk h ι, w) := rz_s1 fun _ => rfl
theorem g17_66 : rg Z d rx_m17 66 L (.int y :: .int x :: S) (rz_mk h ι, w) = if x < y then rg Z d rx_m17 113 L S (rz_mk h ι, w) else rg Z d rx_m17 69 L S (rz_mk h ι, w) := rz_if2 (pc := 66) (t := 113) (off := 47) (cc := .lt) (by decide) rfl
theorem g17_69 : rg Z d rx_m17 69 [some (.ref a), l1, l2, l3, l4, l5, l6, l7, l8, l9] S (rz_mk h ι, w) = rg Z d rx_m17 70 [some (.ref a), l1, l2, l3, l4, l5, l6, l7, l8, l9] (.ref a :: S) (rz_mk h ι, w) := rz_s1 fun _ => rfl
theorem g17_70 (c : rz_fR h a 2 1) : rg Z d rx_m17 70 L (.ref a :: S) (rz_mk h ι, w) = rg Z d rx_m17 73 L (rz_rv h a 1 :: S) (rz_mk h ι, w) := rz_gR rfl (by decide) c
theorem g17_73 : rg Z d rx_m17 73 [l0, l1, some (.int x), l3, l4, l5, l6, l7, l8, l9] S (rz_mk h ι, w) = rg Z d rx_m17 74 [l0, l1, some (.int x), l3, l4, l5, l6, l7, l8, l9] (.int x :: S) (rz_mk h ι, w) := rz_s1 fun _ => rfl
theorem g17_74 : rg Z d rx_m17 74 L S (rz_mk h ι, w) = rg Z d rx_m17 75 L (.int 1 :: S) (rz_mk h ι, w) := rz_s1 fun _ => rfl
theorem g17_75 : rg Z d rx_m17 75 [l0, l1, l2, l3, l4, l5, l6, some (.int x), l8, l9] S (rz_mk h ι, w) = rg Z d rx_m17 77 [l0, l1, l2, l3, l4, l5, l6, some (.int x), l8, l9] (.int x :: S) (rz_mk h ι, w) := rz_s1 fun _ => rfl
theorem g17_77 : rg Z d rx_m17 77 L (.int y :: .int x :: S) (rz_mk h ι, w) = rg Z d rx_m17 78 L (.int (x <<< (y &&& 31)) :: S) (rz_mk h ι, w) := rz_s1 fun _ => rfl
theorem g17_78 : rg Z d rx_m17 78 L (.int y :: .int x :: S) (rz_mk h ι, w) = rg Z d rx_m17 79 L (.int (x ||| y) :: S) (rz_mk h ι, w) := rz_s1 fun _ => rfl
theorem g17_79 : rg Z d rx_m17 79 L S (rz_mk h ι, w) = rg Z d rx_m17 81 L (.int 8 :: S) (rz_mk h ι, w) := rz_s1 fun _ => rfl
theorem g17_81 : rg Z d rx_m17 81 L (.int y :: .int x :: S) (rz_mk h ι, w) = rg Z d rx_m17 82 L (.int (x * y) :: S) (rz_mk h ι, w) := rz_s1 fun _ => rfl
theorem g17_82 : rg Z d rx_m17 82 [l0, l1, l2, l3, l4, l5, l6, some (.int x), l8, l9] S (rz_mk h ι, w) = rg Z d rx_m17 84 [l0, l1, l2, l3, l4, l5, l6, some (.int x), l8, l9] (.int x :: S) (rz_mk h ι, w) := rz_s1 fun _ => rfl
theorem g17_84 : rg Z d rx_m17 84 L (.int y :: .int x :: S) (rz_mk h ι, w) = rg Z d rx_m17 85 L (.int (x + y) :: S) (rz_mk h ι, w) := rz_s1 fun _ => rfl
theorem g17_85 (c : rz_ar h a 0) (hi : rz_ix x (rz_ln h a)) : rg Z d rx_m17 85 L (.int x :: .ref a :: S) (rz_mk h ι, w) = rg Z d rx_m17 86 L (.int (ι a x.toNatClampNeg) :: S) (rz_mk h ι, w) := rz_iald rfl c hi
theorem g17_86 : rg Z d rx_m17 86 [l0, l1, l2, l3, l4, l5, l6, l7, some (.int z), l9] (.int x :: S) (rz_mk h ι, w) = rg Z d rx_m17 88 [l0, l1, l2, l3, l4, l5, l6, l7, some (.int z), some (.int x)] S (rz_mk h ι, w) := rz_s1 fun _ => rfl
theorem g17_88 : rg Z d rx_m17 88 [l0, l1, l2, l3, l4, l5, l6, l7, l8, some (.int x)] S (rz_mk h ι, w) = rg Z d rx_m17 90 [l0, l1, l2, l3, l4, l5, l6, l7, l8, some (.int x)] (.int x :: S) (rz_mk h ι, w) := rz_s1 fun _ => rfl
theorem g17_90 : rg Z d rx_m17 90 [l0, l1, l2, l3, l4, l5, some (.int x), l7, l8, l9] S (rz_mk h ι, w) = rg Z d rx_m17 92 [l0, l1, l2, l3, l4, l5, some (.int x), l7, l8, l9] (.int x :: S) (rz_mk h ι, w) := rz_s1 fun _ => rfl
theorem g17_92 : rg Z d rx_m17 92 L (.int y :: .int x :: S) (rz_mk h ι, w) = if y < x then rg Z d rx_m17 95 L S (rz_mk h ι, w) else rg Z d rx_m17 100 L S (rz_mk h ι, w) := rz_if2 (pc := 92) (t := 100) (off := 8) (cc := .le) (by decide) rfl
theorem g17_95 : rg Z d rx_m17 95 [l0, l1, l2, l3, l4, l5, l6, some (.int x), l8, l9] S (rz_mk h ι, w) = rg Z d rx_m17 97 [l0, l1, l2, l3, l4, l5, l6, some (.int x), l8, l9] (.int x :: S) (rz_mk h ι, w) := rz_s1 fun _ => rfl
theorem g17_97 : rg Z d rx_m17 97 L S (rz_mk h ι, w) = rg Z d rx_m17 102 L S (rz_mk h ι, w) := rz_s1 fun _ => rfl
theorem g17_100 : rg Z d rx_m17 100 [l0, l1, l2, l3, l4, some (.int x), l6, l7, l8, l9] S (rz_mk h ι, w) = rg Z d rx_m17 102 [l0, l1, l2, l3, l4, some (.int x), l6, l7, l8, l9] (.int x :: S) (rz_mk h ι, w) := rz_s1 fun _ => rfl
theorem g17_102 : rg Z d rx_m17 102 [l0, l1, l2, l3, some (.int z), l5, l6, l7, l8, l9] (.int x :: S) (rz_mk h ι, w) = rg Z d rx_m17 104 [l0, l1, l2, l3, some (.int z), some (.int x), l6, l7, l8, l9] S (rz_mk h ι, w) := rz_s1 fun _ => rfl
theorem g17_104 : rg Z d rx_m17 104 [l0, l1, l2, l3, l4, l5, some (.int x), l7, l8, l9] S (rz_mk h ι, w) = rg Z d rx_m17 106 [l0, l1, l2, l3, l4, l5, some (.int x), l7, l8, l9] (.int x :: S) (rz_mk h ι, w) := rz_s1 fun _ => rfl
theorem g17_106 : rg Z d rx_m17 106 [l0, l1, l2, l3, l4, l5, l6, l7, l8, some (.int x)] S (rz_mk h ι, w) = rg Z d rx_m17 108 [l0, l1, l2, l3, l4, l5, l6, l7, l8, some (.int x)] (.int x :: S) (rz_mk h ι, w) := rz_s1 fun _ => rfl
theorem g17_108 : rg Z d rx_m17 108 L (.int y :: .int x :: []) (rz_mk h ι, w) = rg Z d rx_m17 111 L (.int (if x < y then y else x) :: []) (rz_mk h ι, w) := rz_max rfl (Nat.le_of_ble_eq_true rfl)
theorem g17_111 : rg Z d rx_m17 111 [l0, l1, l2, l3, l4, some (.int z), l6, l7, l8, l9] (.int x :: S) (rz_mk h ι, w) = rg Z d rx_m17 113 [l0, l1, l2, l3, l4, some (.int z), some (.int x), l7, l8, l9] S (rz_mk h ι, w) := rz_s1 fun _ => rfl
theorem g17_113 : rg Z d rx_m17 113 [l0, l1, l2, l3, l4, l5, some (.int z), some (.int x), l8, l9] S (rz_mk h ι, w) = rg Z d rx_m17 116 [l0, l1, l2, l3, l4, l5, some (.int z), some (.int (x + 1)), l8, l9] S (rz_mk h ι, w) := rz_s1 fun _ => rfl
theorem g17_116 : rg Z d rx_m17 116 L S (rz_mk h ι, w) = rg Z d rx_m17 9 L S (rz_mk h ι, w) := rz_s1 fun _ => rfl
theorem g17_119 : rg Z d rx_m17 119 [l0, l1, l2, l3, l4, some (.int x), l6, l7, l8, l9] S (rz_mk h ι, w) = rg Z d rx_m17 121 [l0, l1, l2, l3, l4, some (.int x), l6, l7, l8, l9] (.int x :: S) (rz_mk h ι, w) := rz_s1 fun _ => rfl
theorem g17_121 : rg Z d rx_m17 121 L [.int x] (rz_mk h ι, w) = some (.inl (some (.int x)), (rz_mk h ι, w)) := rz_reti rfl rfl rfl
theorem e17 : rz_f Z (d + 1) 17 [.ref t0, .int s1, .int s2, .int s3, .int s4] σ = rg Z d rx_m17 0 [some (.ref t0), some (.int s1), some (.int s2), some (.int s3), some (.int s4), none, none, none, none, none] [] σ := rz_f_eq rfl (Nat.le_of_ble_eq_true rfl)
theorem g18_0 : rg Z d rx_m18 0 L S (rz_mk h ι, w) = rg Z d rx_m18 1 L (.int 0 :: S) (rz_mk h ι, w) := rz_s1 fun _ => rfl
theorem g18_1 : rg Z d rx_m18 1 [l0, l1, l2, l3, some (.int z), l5] (.int x :: S) (rz_mk h ι, w) = rg Z d rx_m18 3 [l0, l1, l2, l3, some (.int z), some (.int x)] S (rz_mk h ι, w) := rz_s1 fun _ => rfl
theorem g18_3 : rg Z d rx_m18 3 [l0, l1, l2, l3, l4, some (.int x)] S (rz_mk h ι, w) = rg Z d rx_m18 5 [l0, l1, l2, l3, l4, some (.int x)] (.int x :: S) (rz_mk h ι, w) := rz_s1 fun _ => rfl
theorem g18_5 : rg Z d rx_m18 5 [l0, some (.ref a), l2, l3, l4, l5] S (rz_mk h ι, w) = rg Z d rx_m18 6 [l0, some (.ref a), l2, l3, l4, l5] (.ref a :: S) (rz_mk h ι, w) := rz_s1 fun _ => rfl
theorem g18_6 (c : rz_fI h a 8 3) : rg Z d rx_m18 6 L (.ref a :: S) (rz_mk h ι, w) = rg Z d rx_m18 9 L (.int (ι a 3) :: S) (rz_mk h ι, w) := rz_gI rfl (by decide) c
theorem g18_9 : rg Z d rx_m18 9 L (.int y :: .int x :: S) (rz_mk h ι, w) = if x < y then rg Z d rx_m18 12 L S (rz_mk h ι, w) else rg Z d rx_m18 48 L S (rz_mk h ι, w) := rz_if2 (pc := 9) (t := 48) (off := 39) (cc := .ge) (by decide) rfl
theorem g18_12 : rg Z d rx_m18 12 [l0, some (.ref a), l2, l3, l4, l5] S (rz_mk h ι, w) = rg Z d rx_m18 13 [l0, some (.ref a), l2, l3, l4, l5] (.ref a :: S) (rz_mk h ι, w) := rz_s1 fun _ => rfl
theorem g18_13 : rg Z d rx_m18 13 [l0, l1, l2, l3, l4, some (.int x)] S (rz_mk h ι, w) = rg Z d rx_m18 15 [l0, l1, l2, l3, l4, some (.int x)] (.int x :: S) (rz_mk h ι, w) := rz_s1 fun _ => rfl
theorem g18_15 (c : rz_oc h a 8) : rg Z d rx_m18 15 L (v1 :: .ref a :: []) (rz_mk h ι, w) = rz_k true (rz_f Z d 68 [.ref a, v1] (rz_mk h ι, w)) (fun v σ' => rg Z d rx_m18 18 L (v.toList ++ []) σ') := rz_cv (pc := 15) (n := 1) (mi := 68) (S := v1 :: .ref a :: []) (rest := []) rfl rfl (Nat.le_of_ble_eq_true rfl) (Nat.le_of_ble_eq_true rfl) c
theorem g18_18 : rg Z d rx_m18 18 L (.int x :: S) (rz_mk h ι, w) = if x = 0 then rg Z d rx_m18 42 L S (rz_mk h ι, w) else rg Z d rx_m18 21 L S (rz_mk h ι, w) := rz_if1 (pc := 18) (t := 42) (off := 24) (cc := .eq) (by decide) rfl
theorem g18_21 : rg Z d rx_m18 21 [l0, l1, l2, l3, l4, some (.int x)] S (rz_mk h ι, w) = rg Z d rx_m18 23 [l0, l1, l2, l3, l4, some (.int x)] (.int x :: S) (rz_mk h ι, w) := rz_s1 fun _ => rfl
theorem g18_23 : rg Z d rx_m18 23 [l0, l1, l2, some (.int x), l4, l5] S (rz_mk h ι, w) = rg Z d rx_m18 24 [l0, l1, l2, some (.int x), l4, l5] (.int x :: S) (rz_mk h ι, w) := rz_s1 fun _ => rfl
theorem g18_24 : rg Z d rx_m18 24 L (.int y :: .int x :: S) (rz_mk h ι, w) = if x = y then rg Z d rx_m18 42 L S (rz_mk h ι, w) else rg Z d rx_m18 27 L S (rz_mk h ι, w) := rz_if2 (pc := 24) (t := 42) (off := 18) (cc := .eq) (by decide) rfl
theorem g18_27 : rg Z d rx_m18 27 [l0, l1, some (.ref a), l3, l4, l5] S (rz_mk h ι, w) = rg Z d rx_m18 28 [l0, l1, some (.ref a), l3, l4, l5] (.ref a :: S) (rz_mk h ι, w) := rz_s1 fun _ => rfl
theorem g18_28 : rg Z d rx_m18 28 [l0, some (.ref a), l2, l3, l4, l5] S (rz_mk h ι, w) = rg Z d rx_m18 29 [l0, some (.ref a), l2, l3, l4, l5] (.ref a :: S) (rz_mk h ι, w) := rz_s1 fun _ => rfl
theorem g18_29 : rg Z d rx_m18 29 [l0, l1, l2, some (.int x), l4, l5] S (rz_mk h ι, w) = rg Z d rx_m18 30 [l0, l1, l2, some (.int x), l4, l5] (.int x :: S) (rz_mk h ι, w) := rz_s1 fun _ => rfl
theorem g18_30 : rg Z d rx_m18 30 [l0, l1, l2, l3, l4, some (.int x)] S (rz_mk h ι, w) = rg Z d rx_m18 32 [l0, l1, l2, l3, l4, some (.int x)] (.int x :: S) (rz_mk h ι, w) := rz_s1 fun _ => rfl
theorem g18_32 (c : rz_oc h a 5) : rg Z d rx_m18 32 L (v3 :: v2 :: v1 :: .ref a :: []) (rz_mk h ι, w) = rz_k true (rz_f Z d 48 [.ref a, v1, v2, v3] (rz_mk h ι, w)) (fun v σ' => rg Z d rx_m18 35 L (v.toList ++ []) σ') := rz_cv (pc := 32) (n := 3) (mi := 48) (S := v3 :: v2 :: v1 :: .ref a :: []) (rest := []) rfl rfl (Nat.le_of_ble_eq_true rfl) (Nat.le_of_ble_eq_true rfl) c
theorem g18_35 : rg Z d rx_m18 35 [l0, l1, l2, l3, some (.int x), l5] S (rz_mk h ι, w) = rg Z d rx_m18 37 [l0, l1, l2, l3, some (.int x), l5] (.int x :: S) (rz_mk h ι, w) := rz_s1 fun _ => rfl
theorem g18_37 : rg Z d rx_m18 37 L (.int y :: .int x :: S) (rz_mk h ι, w) = if y < x then rg Z d rx_m18 40 L S (rz_mk h ι, w) else rg Z d rx_m18 42 L S (rz_mk h ι, w) := rz_if2 (pc := 37) (t := 42) (off := 5) (cc := .le) (by decide) rfl
theorem g18_40 : rg Z d rx_m18 40 L S (rz_mk h ι, w) = rg Z d rx_m18 41 L (.int 0 :: S) (rz_mk h ι, w) := rz_s1 fun _ => rfl
theorem g18_41 (c : narrow .boolean (.int x) = .int x) : rg Z d rx_m18 41 L [.int x] (rz_mk h ι, w) = some (.inl (some (.int x)), (rz_mk h ι, w)) := rz_reti rfl rfl c
theorem g18_42 : rg Z d rx_m18 42 [l0, l1, l2, l3, some (.int z), some (.int x)] S (rz_mk h ι, w) = rg Z d rx_m18 45 [l0, l1, l2, l3, some (.int z), some (.int (x + 1))] S (rz_mk h ι, w) := rz_s1 fun _ => rfl
theorem g18_45 : rg Z d rx_m18 45 L S (rz_mk h ι, w) = rg Z d rx_m18 3 L S (rz_mk h ι, w) := rz_s1 fun _ => rfl
theorem g18_48 : rg Z d rx_m18 48 L S (rz_mk h ι, w) = rg Z d rx_m18 49 L (.int 1 :: S) (rz_mk h ι, w) := rz_s1 fun _ => rfl
theorem g18_49 (c : narrow .boolean (.int x) = .int x) : rg Z d rx_m18 49 L [.int x] (rz_mk h ι, w) = some (.inl (some (.int x)), (rz_mk h ι, w)) := rz_reti rfl rfl c
theorem e18 : rz_f Z (d + 1) 18 [.ref t0, .ref t1, .ref t2, .int s3, .int s4] σ = rg Z d rx_m18 0 [some (.ref t0), some (.ref t1), some (.ref t2), some (.int s3), some (.int s4), none] [] σ := rz_f_eq rfl (Nat.le_of_ble_eq_true rfl)
theorem g19_0 : rg Z d rx_m19 0 L S (rz_mk h ι, w) = rg Z d rx_m19 1 L (.int 0 :: S) (rz_mk h ι, w) := rz_s1 fun _ => rfl
theorem g19_1 : rg Z d rx_m19 1 [l0, l1, l2, l3, l4, some (.int z), l6, l7] (.int x :: S) (rz_mk h ι, w) = rg Z d rx_m19 3 [l0, l1, l2, l3, l4, some (.int z), some (.int x), l7] S (rz_mk h ι, w) := rz_s1 fun _ => rfl
theorem g19_3 : rg Z d rx_m19 3 [l0, l1, l2, l3, l4, l5, some (.int x), l7] S (rz_mk h ι, w) = rg Z d rx_m19 5 [l0, l1, l2, l3, l4, l5, some (.int x), l7] (.int x :: S) (rz_mk h ι, w) := rz_s1 fun _ => rfl
theorem g19_5 : rg Z d rx_m19 5 L S (rz_mk h ι, w) = rg Z d rx_m19 7 L (.int 8 :: S) (rz_mk h ι, w) := rz_s1 fun _ => rfl
theorem g19_7 : rg Z d rx_m19 7 L (.int y :: .int x :: S) (rz_mk h ι, w) = if x < y then rg Z d rx_m19 10 L S (rz_mk h ι, w) else rg Z d rx_m19 66 L S (rz_mk h ι, w) := rz_if2 (pc := 7) (t := 66) (off := 59) (cc := .ge) (by decide) rfl
theorem g19_10 : rg Z d rx_m19 10 [l0, some (.ref a), l2, l3, l4, l5, l6, l7] S (rz_mk h ι, w) = rg Z d rx_m19 11 [l0, some (.ref a), l2, l3, l4, l5, l6, l7] (.ref a :: S) (rz_mk h ι, w) := rz_s1 fun _ => rfl
theorem g19_11 : rg Z d rx_m19 11 [l0, l1, l2, l3, l4, l5, some (.int x), l7] S (rz_mk h ι, w) = rg Z d rx_m19 13 [l0, l1, l2, l3, l4, l5, some (.int x), l7] (.int x :: S) (rz_mk h ι, w) := rz_s1 fun _ => rfl
theorem g19_13 (c : rz_oc h a 8) : rg Z d rx_m19 13 L (v1 :: .ref a :: []) (rz_mk h ι, w) = rz_k true (rz_f Z d 68 [.ref a, v1] (rz_mk h ι, w)) (fun v σ' => rg Z d rx_m19 16 L (v.toList ++ []) σ') := rz_cv (pc := 13) (n := 1) (mi := 68) (S := v1 :: .ref a :: []) (rest := []) rfl rfl (Nat.le_of_ble_eq_true rfl) (Nat.le_of_ble_eq_true rfl) c
theorem g19_16 : rg Z d rx_m19 16 L (.int x :: S) (rz_mk h ι, w) = if x = 0 then rg Z d rx_m19 34 L S (rz_mk h ι, w) else rg Z d rx_m19 19 L S (rz_mk h ι, w) := rz_if1 (pc := 16) (t := 34) (off := 18) (cc := .eq) (by decide) rfl
theorem g19_19 : rg Z d rx_m19 19 [l0, l1, l2, l3, some (.int x), l5, l6, l7] S (rz_mk h ι, w) = rg Z d rx_m19 21 [l0, l1, l2, l3, some (.int x), l5, l6, l7] (.int x :: S) (rz_mk h ι, w) := rz_s1 fun _ => rfl
theorem g19_21 : rg Z d rx_m19 21 [l0, l1, l2, l3, l4, l5, some (.int x), l7] S (rz_mk h ι, w) = rg Z d rx_m19 23 [l0, l1, l2, l3, l4, l5, some (.int x), l7] (.int x :: S) (rz_mk h ι, w) := rz_s1 fun _ => rfl
theorem g19_23 : rg Z d rx_m19 23 L (.int y :: .int x :: S) (rz_mk h ι, w) = rg Z d rx_m19 24 L (.int (x >>> (y &&& 31)) :: S) (rz_mk h ι, w) := rz_s1 fun _ => rfl
theorem g19_24 : rg Z d rx_m19 24 L S (rz_mk h ι, w) = rg Z d rx_m19 25 L (.int 1 :: S) (rz_mk h ι, w) := rz_s1 fun _ => rfl
theorem g19_25 : rg Z d rx_m19 25 L (.int y :: .int x :: S) (rz_mk h ι, w) = rg Z d rx_m19 26 L (.int (x &&& y) :: S) (rz_mk h ι, w) := rz_s1 fun _ => rfl
theorem g19_26 : rg Z d rx_m19 26 L S (rz_mk h ι, w) = rg Z d rx_m19 27 L (.int 1 :: S) (rz_mk h ι, w) := rz_s1 fun _ => rfl
theorem g19_27 : rg Z d rx_m19 27 L (.int y :: .int x :: S) (rz_mk h ι, w) = if x = y then rg Z d rx_m19 30 L S (rz_mk h ι, w) else rg Z d rx_m19 34 L S (rz_mk h ι, w) := rz_if2 (pc := 27) (t := 34) (off := 7) (cc := .ne) (by decide) rfl
theorem g19_30 : rg Z d rx_m19 30 L S (rz_mk h ι, w) = rg Z d rx_m19 31 L (.int 1 :: S) (rz_mk h ι, w) := rz_s1 fun _ => rfl
theorem g19_31 : rg Z d rx_m19 31 L S (rz_mk h ι, w) = rg Z d rx_m19 35 L S (rz_mk h ι, w) := rz_s1 fun _ => rfl
theorem g19_34 : rg Z d rx_m19 34 L S (rz_mk h ι, w) = rg Z d rx_m19 35 L (.int 0 :: S) (rz_mk h ι, w) := rz_s1 fun _ => rfl
theorem g19_35 : rg Z d rx_m19 35 [l0, l1, l2, l3, l4, l5, some (.int z), l7] (.int x :: S) (rz_mk h ι, w) = rg Z d rx_m19 37 [l0, l1, l2, l3, l4, l5, some (.int z), some (.int x)] S (rz_mk h ι, w) := rz_s1 fun _ => rfl
theorem g19_37 : rg Z d rx_m19 37 [some (.ref a), l1, l2, l3, l4, l5, l6, l7] S (rz_mk h ι, w) = rg Z d rx_m19 38 [some (.ref a), l1, l2, l3, l4, l5, l6, l7] (.ref a :: S) (rz_mk h ι, w) := rz_s1 fun _ => rfl
theorem g19_38 (c : rz_fR h a 2 2) : rg Z d rx_m19 38 L (.ref a :: S) (rz_mk h ι, w) = rg Z d rx_m19 41 L (rz_rv h a 2 :: S) (rz_mk h ι, w) := rz_gR rfl (by decide) c
theorem g19_41 : rg Z d rx_m19 41 [l0, l1, l2, l3, l4, l5, some (.int x), l7] S (rz_mk h ι, w) = rg Z d rx_m19 43 [l0, l1, l2, l3, l4, l5, some (.int x), l7] (.int x :: S) (rz_mk h ι, w) := rz_s1 fun _ => rfl
theorem g19_43 : rg Z d rx_m19 43 [l0, l1, l2, l3, l4, l5, l6, some (.int x)] S (rz_mk h ι, w) = rg Z d rx_m19 45 [l0, l1, l2, l3, l4, l5, l6, some (.int x)] (.int x :: S) (rz_mk h ι, w) := rz_s1 fun _ => rfl
theorem g19_45 : rg Z d rx_m19 45 L (.int x :: S) (rz_mk h ι, w) = if x = 0 then rg Z d rx_m19 58 L S (rz_mk h ι, w) else rg Z d rx_m19 48 L S (rz_mk h ι, w) := rz_if1 (pc := 45) (t := 58) (off := 13) (cc := .eq) (by decide) rfl
theorem g19_48 : rg Z d rx_m19 48 [l0, l1, some (.ref a), l3, l4, l5, l6, l7] S (rz_mk h ι, w) = rg Z d rx_m19 49 [l0, l1, some (.ref a), l3, l4, l5, l6, l7] (.ref a :: S) (rz_mk h ι, w) := rz_s1 fun _ => rfl
theorem g19_49 : rg Z d rx_m19 49 [l0, some (.ref a), l2, l3, l4, l5, l6, l7] S (rz_mk h ι, w) = rg Z d rx_m19 50 [l0, some (.ref a), l2, l3, l4, l5, l6, l7] (.ref a :: S) (rz_mk h ι, w) := rz_s1 fun _ => rfl
theorem g19_50 : rg Z d rx_m19 50 [l0, l1, l2, l3, l4, l5, some (.int x), l7] S (rz_mk h ι, w) = rg Z d rx_m19 52 [l0, l1, l2, l3, l4, l5, some (.int x), l7] (.int x :: S) (rz_mk h ι, w) := rz_s1 fun _ => rfl
theorem g19_52 (c : rz_oc h a 5) : rg Z d rx_m19 52 L (v2 :: v1 :: .ref a :: [.int s0, .ref t1]) (rz_mk h ι, w) = rz_k true (rz_f Z d 49 [.ref a, v1, v2] (rz_mk h ι, w)) (fun v σ' => rg Z d rx_m19 55 L (v.toList ++ [.int s0, .ref t1]) σ') := rz_cv (pc := 52) (n := 2) (mi := 49) (S := v2 :: v1 :: .ref a :: [.int s0, .ref t1]) (rest := [.int s0, .ref t1]) rfl rfl (Nat.le_of_ble_eq_true rfl) (Nat.le_of_ble_eq_true rfl) c
theorem g19_55 : rg Z d rx_m19 55 L S (rz_mk h ι, w) = rg Z d rx_m19 59 L S (rz_mk h ι, w) := rz_s1 fun _ => rfl
theorem g19_58 : rg Z d rx_m19 58 L S (rz_mk h ι, w) = rg Z d rx_m19 59 L (.int 0 :: S) (rz_mk h ι, w) := rz_s1 fun _ => rfl
theorem g19_59 (c : rz_ar h a 0) (hi : rz_ix x (rz_ln h a)) (hz : Z.2.1 ≤ a) : rg Z d rx_m19 59 L (.int y :: .int x :: .ref a :: S) (rz_mk h ι, w) = rg Z d rx_m19 60 L S (rz_mk h (rz_up ι a x.toNatClampNeg y), w) := rz_iast rfl c hi hz
theorem g19_60 : rg Z d rx_m19 60 [l0, l1, l2, l3, l4, some (.int z), some (.int x), l7] S (rz_mk h ι, w) = rg Z d rx_m19 63 [l0, l1, l2, l3, l4, some (.int z), some (.int (x + 1)), l7] S (rz_mk h ι, w) := rz_s1 fun _ => rfl
theorem g19_63 : rg Z d rx_m19 63 L S (rz_mk h ι, w) = rg Z d rx_m19 3 L S (rz_mk h ι, w) := rz_s1 fun _ => rfl
theorem g19_66 : rg Z d rx_m19 66 L S (rz_mk h ι, w) = rg Z d rx_m19 67 L (.int 0 :: S) (rz_mk h ι, w) := rz_s1 fun _ => rfl
theorem g19_67 : rg Z d rx_m19 67 [l0, l1, l2, l3, l4, some (.int z), l6, l7] (.int x :: S) (rz_mk h ι, w) = rg Z d rx_m19 69 [l0, l1, l2, l3, l4, some (.int z), some (.int x), l7] S (rz_mk h ι, w) := rz_s1 fun _ => rfl
theorem g19_69 : rg Z d rx_m19 69 L S (rz_mk h ι, w) = rg Z d rx_m19 70 L (.int 1 :: S) (rz_mk h ι, w) := rz_s1 fun _ => rfl
theorem g19_70 : rg Z d rx_m19 70 [l0, l1, l2, l3, l4, l5, some (.int z), l7] (.int x :: S) (rz_mk h ι, w) = rg Z d rx_m19 72 [l0, l1, l2, l3, l4, l5, some (.int z), some (.int x)] S (rz_mk h ι, w) := rz_s1 fun _ => rfl
theorem g19_72 : rg Z d rx_m19 72 [l0, l1, l2, l3, l4, l5, l6, some (.int x)] S (rz_mk h ι, w) = rg Z d rx_m19 74 [l0, l1, l2, l3, l4, l5, l6, some (.int x)] (.int x :: S) (rz_mk h ι, w) := rz_s1 fun _ => rfl
theorem g19_74 : rg Z d rx_m19 74 L S (rz_mk h ι, w) = rg Z d rx_m19 76 L (.int 99 :: S) (rz_mk h ι, w) := rz_s1 fun _ => rfl
theorem g19_76 : rg Z d rx_m19 76 L (.int y :: .int x :: S) (rz_mk h ι, w) = if y < x then rg Z d rx_m19 100 L S (rz_mk h ι, w) else rg Z d rx_m19 79 L S (rz_mk h ι, w) := rz_if2 (pc := 76) (t := 100) (off := 24) (cc := .gt) (by decide) rfl
theorem g19_79 : rg Z d rx_m19 79 [some (.ref a), l1, l2, l3, l4, l5, l6, l7] S (rz_mk h ι, w) = rg Z d rx_m19 80 [some (.ref a), l1, l2, l3, l4, l5, l6, l7] (.ref a :: S) (rz_mk h ι, w) := rz_s1 fun _ => rfl
theorem g19_80 : rg Z d rx_m19 80 [l0, l1, l2, l3, l4, l5, l6, some (.int x)] S (rz_mk h ι, w) = rg Z d rx_m19 82 [l0, l1, l2, l3, l4, l5, l6, some (.int x)] (.int x :: S) (rz_mk h ι, w) := rz_s1 fun _ => rfl
theorem g19_82 (c : rz_oc h a 2) : rg Z d rx_m19 82 L (v1 :: .ref a :: []) (rz_mk h ι, w) = rz_k true (rz_f Z d 20 [.ref a, v1] (rz_mk h ι, w)) (fun v σ' => rg Z d rx_m19 85 L (v.toList ++ []) σ') := rz_cv (pc := 82) (n := 1) (mi := 20) (S := v1 :: .ref a :: []) (rest := []) rfl rfl (Nat.le_of_ble_eq_true rfl) (Nat.le_of_ble_eq_true rfl) c
theorem g19_85 : rg Z d rx_m19 85 [l0, l1, l2, l3, l4, some (.int x), l6, l7] S (rz_mk h ι, w) = rg Z d rx_m19 87 [l0, l1, l2, l3, l4, some (.int x), l6, l7] (.int x :: S) (rz_mk h ι, w) := rz_s1 fun _ => rfl
theorem g19_87 : rg Z d rx_m19 87 L (.int y :: .int x :: S) (rz_mk h ι, w) = if y < x then rg Z d rx_m19 100 L S (rz_mk h ι, w) else rg Z d rx_m19 90 L S (rz_mk h ι, w) := rz_if2 (pc := 87) (t := 100) (off := 13) (cc := .gt) (by decide) rfl
theorem g19_90 : rg Z d rx_m19 90 [l0, l1, l2, l3, l4, l5, l6, some (.int x)] S (rz_mk h ι, w) = rg Z d rx_m19 92 [l0, l1, l2, l3, l4, l5, l6, some (.int x)] (.int x :: S) (rz_mk h ι, w) := rz_s1 fun _ => rfl
theorem g19_92 : rg Z d rx_m19 92 [l0, l1, l2, l3, l4, some (.int z), l6, l7] (.int x :: S) (rz_mk h ι, w) = rg Z d rx_m19 94 [l0, l1, l2, l3, l4, some (.int z), some (.int x), l7] S (rz_mk h ι, w) := rz_s1 fun _ => rfl
theorem g19_94 : rg Z d rx_m19 94 [l0, l1, l2, l3, l4, l5, some (.int z), some (.int x)] S (rz_mk h ι, w) = rg Z d rx_m19 97 [l0, l1, l2, l3, l4, l5, some (.int z), some (.int (x + 1))] S (rz_mk h ι, w) := rz_s1 fun _ => rfl
theorem g19_97 : rg Z d rx_m19 97 L S (rz_mk h ι, w) = rg Z d rx_m19 72 L S (rz_mk h ι, w) := rz_s1 fun _ => rfl
theorem g19_100 : rg Z d rx_m19 100 [l0, l1, l2, some (.int x), l4, l5, l6, l7] S (rz_mk h ι, w) = rg Z d rx_m19 101 [l0, l1, l2, some (.int x), l4, l5, l6, l7] (.int x :: S) (rz_mk h ι, w) := rz_s1 fun _ => rfl
theorem g19_101 : rg Z d rx_m19 101 L (.int x :: S) (rz_mk h ι, w) = if x < 0 then rg Z d rx_m19 124 L S (rz_mk h ι, w) else rg Z d rx_m19 104 L S (rz_mk h ι, w) := rz_if1 (pc := 101) (t := 124) (off := 23) (cc := .lt) (by decide) rfl
theorem g19_104 : rg Z d rx_m19 104 [l0, l1, l2, some (.int x), l4, l5, l6, l7] S (rz_mk h ι, w) = rg Z d rx_m19 105 [l0, l1, l2, some (.int x), l4, l5, l6, l7] (.int x :: S) (rz_mk h ι, w) := rz_s1 fun _ => rfl
theorem g19_105 : rg Z d rx_m19 105 L S (rz_mk h ι, w) = rg Z d rx_m19 107 L (.int 8 :: S) (rz_mk h ι, w) := rz_s1 fun _ => rfl
theorem g19_107 : rg Z d rx_m19 107 L (.int y :: .int x :: S) (rz_mk h ι, w) = if x < y then rg Z d rx_m19 110 L S (rz_mk h ι, w) else rg Z d rx_m19 124 L S (rz_mk h ι, w) := rz_if2 (pc := 107) (t := 124) (off := 17) (cc := .ge) (by decide) rfl
theorem g19_110 : rg Z d rx_m19 110 [some (.ref a), l1, l2, l3, l4, l5, l6, l7] S (rz_mk h ι, w) = rg Z d rx_m19 111 [some (.ref a), l1, l2, l3, l4, l5, l6, l7] (.ref a :: S) (rz_mk h ι, w) := rz_s1 fun _ => rfl
theorem g19_111 (c : rz_fR h a 2 2) : rg Z d rx_m19 111 L (.ref a :: S) (rz_mk h ι, w) = rg Z d rx_m19 114 L (rz_rv h a 2 :: S) (rz_mk h ι, w) := rz_gR rfl (by decide) c
theorem g19_114 : rg Z d rx_m19 114 [l0, l1, l2, some (.int x), l4, l5, l6, l7] S (rz_mk h ι, w) = rg Z d rx_m19 115 [l0, l1, l2, some (.int x), l4, l5, l6, l7] (.int x :: S) (rz_mk h ι, w) := rz_s1 fun _ => rfl
theorem g19_115 (c : rz_ar h a 0) (hi : rz_ix x (rz_ln h a)) : rg Z d rx_m19 115 L (.int x :: .ref a :: S) (rz_mk h ι, w) = rg Z d rx_m19 116 L (.int (ι a x.toNatClampNeg) :: S) (rz_mk h ι, w) := rz_iald rfl c hi
theorem g19_116 : rg Z d rx_m19 116 [l0, l1, l2, l3, l4, l5, some (.int x), l7] S (rz_mk h ι, w) = rg Z d rx_m19 118 [l0, l1, l2, l3, l4, l5, some (.int x), l7] (.int x :: S) (rz_mk h ι, w) := rz_s1 fun _ => rfl
theorem g19_118 : rg Z d rx_m19 118 L (.int y :: .int x :: []) (rz_mk h ι, w) = rg Z d rx_m19 121 L (.int (if y < x then y else x) :: []) (rz_mk h ι, w) := rz_min rfl (Nat.le_of_ble_eq_true rfl)
theorem g19_121 : rg Z d rx_m19 121 L S (rz_mk h ι, w) = rg Z d rx_m19 125 L S (rz_mk h ι, w) := rz_s1 fun _ => rfl
theorem g19_124 : rg Z d rx_m19 124 L S (rz_mk h ι, w) = rg Z d rx_m19 125 L (.int 0 :: S) (rz_mk h ι, w) := rz_s1 fun _ => rfl
theorem g19_125 : rg Z d rx_m19 125 L [.int x] (rz_mk h ι, w) = some (.inl (some (.int x)), (rz_mk h ι, w)) := rz_reti rfl rfl rfl
theorem e19 : rz_f Z (d + 1) 19 [.ref t0, .ref t1, .ref t2, .int s3, .int s4, .int s5] σ = rg Z d rx_m19 0 [some (.ref t0), some (.ref t1), some (.ref t2), some (.int s3), some (.int s4), some (.int s5), none, none] [] σ := rz_f_eq rfl (Nat.le_of_ble_eq_true rfl)
theorem g20_0 : rg Z d rx_m20 0 L S (rz_mk h ι, w) = rg Z d rx_m20 1 L (.int 0 :: S) (rz_mk h ι, w) := rz_s1 fun _ => rfl
theorem g20_1 : rg Z d rx_m20 1 [l0, some (.int z), l2, l3] (.int x :: S) (rz_mk h ι, w) = rg Z d rx_m20 2 [l0, some (.int z), some (.int x), l3] S (rz_mk h ι, w) := rz_s1 fun _ => rfl
theorem g20_2 : rg Z d rx_m20 2 L S (rz_mk h ι, w) = rg Z d rx_m20 3 L (.int 0 :: S) (rz_mk h ι, w) := rz_s1 fun _ => rfl
theorem g20_3 : rg Z d rx_m20 3 [l0, l1, some (.int z), l3] (.int x :: S) (rz_mk h ι, w) = rg Z d rx_m20 4 [l0, l1, some (.int z), some (.int x)] S (rz_mk h ι, w) := rz_s1 fun _ => rfl
theorem g20_4 : rg Z d rx_m20 4 [l0, l1, l2, some (.int x)] S (rz_mk h ι, w) = rg Z d rx_m20 5 [l0, l1, l2, some (.int x)] (.int x :: S) (rz_mk h ι, w) := rz_s1 fun _ => rfl
theorem g20_5 : rg Z d rx_m20 5 L S (rz_mk h ι, w) = rg Z d rx_m20 7 L (.int 8 :: S) (rz_mk h ι, w) := rz_s1 fun _ => rfl
theorem g20_7 : rg Z d rx_m20 7 L (.int y :: .int x :: S) (rz_mk h ι, w) = if x < y then rg Z d rx_m20 10 L S (rz_mk h ι, w) else rg Z d rx_m20 29 L S (rz_mk h ι, w) := rz_if2 (pc := 7) (t := 29) (off := 22) (cc := .ge) (by decide) rfl
theorem g20_10 : rg Z d rx_m20 10 [l0, l1, some (.int x), l3] S (rz_mk h ι, w) = rg Z d rx_m20 11 [l0, l1, some (.int x), l3] (.int x :: S) (rz_mk h ι, w) := rz_s1 fun _ => rfl
theorem g20_11 : rg Z d rx_m20 11 [some (.ref a), l1, l2, l3] S (rz_mk h ι, w) = rg Z d rx_m20 12 [some (.ref a), l1, l2, l3] (.ref a :: S) (rz_mk h ι, w) := rz_s1 fun _ => rfl
theorem g20_12 (c : rz_fR h a 2 2) : rg Z d rx_m20 12 L (.ref a :: S) (rz_mk h ι, w) = rg Z d rx_m20 15 L (rz_rv h a 2 :: S) (rz_mk h ι, w) := rz_gR rfl (by decide) c
theorem g20_15 : rg Z d rx_m20 15 [l0, l1, l2, some (.int x)] S (rz_mk h ι, w) = rg Z d rx_m20 16 [l0, l1, l2, some (.int x)] (.int x :: S) (rz_mk h ι, w) := rz_s1 fun _ => rfl
theorem g20_16 (c : rz_ar h a 0) (hi : rz_ix x (rz_ln h a)) : rg Z d rx_m20 16 L (.int x :: .ref a :: S) (rz_mk h ι, w) = rg Z d rx_m20 17 L (.int (ι a x.toNatClampNeg) :: S) (rz_mk h ι, w) := rz_iald rfl c hi
theorem g20_17 : rg Z d rx_m20 17 [l0, some (.int x), l2, l3] S (rz_mk h ι, w) = rg Z d rx_m20 18 [l0, some (.int x), l2, l3] (.int x :: S) (rz_mk h ι, w) := rz_s1 fun _ => rfl
theorem g20_18 : rg Z d rx_m20 18 L (.int y :: .int x :: [.int s0]) (rz_mk h ι, w) = rg Z d rx_m20 21 L (.int (if y < x then y else x) :: [.int s0]) (rz_mk h ι, w) := rz_min rfl (Nat.le_of_ble_eq_true rfl)
theorem g20_21 : rg Z d rx_m20 21 L (.int y :: .int x :: S) (rz_mk h ι, w) = rg Z d rx_m20 22 L (.int (x + y) :: S) (rz_mk h ι, w) := rz_s1 fun _ => rfl
theorem g20_22 : rg Z d rx_m20 22 [l0, some (.int z), l2, l3] (.int x :: S) (rz_mk h ι, w) = rg Z d rx_m20 23 [l0, some (.int z), some (.int x), l3] S (rz_mk h ι, w) := rz_s1 fun _ => rfl
theorem g20_23 : rg Z d rx_m20 23 [l0, l1, some (.int z), some (.int x)] S (rz_mk h ι, w) = rg Z d rx_m20 26 [l0, l1, some (.int z), some (.int (x + 1))] S (rz_mk h ι, w) := rz_s1 fun _ => rfl
theorem g20_26 : rg Z d rx_m20 26 L S (rz_mk h ι, w) = rg Z d rx_m20 4 L S (rz_mk h ι, w) := rz_s1 fun _ => rfl
theorem g20_29 : rg Z d rx_m20 29 [l0, l1, some (.int x), l3] S (rz_mk h ι, w) = rg Z d rx_m20 30 [l0, l1, some (.int x), l3] (.int x :: S) (rz_mk h ι, w) := rz_s1 fun _ => rfl
theorem g20_30 : rg Z d rx_m20 30 L [.int x] (rz_mk h ι, w) = some (.inl (some (.int x)), (rz_mk h ι, w)) := rz_reti rfl rfl rfl
theorem e20 : rz_f Z (d + 1) 20 [.ref t0, .int s1] σ = rg Z d rx_m20 0 [some (.ref t0), some (.int s1), none, none] [] σ := rz_f_eq rfl (Nat.le_of_ble_eq_true rfl)
theorem g21_0 : rg Z d rx_m21 0 [some (.ref a), l1] S (rz_mk h ι, w) = rg Z d rx_m21 1 [some (.ref a), l1] (.ref a :: S) (rz_mk h ι, w) := rz_s1 fun _ => rfl
theorem g21_1 : rg Z d rx_m21 1 L (.ref a :: []) (rz_mk h ι, w) = rg Z d rx_m21 4 L [] (rz_mk h ι, w) := rz_oi rfl (Nat.le_of_ble_eq_true rfl)
theorem g21_4 : rg Z d rx_m21 4 [some (.ref a), l1] S (rz_mk h ι, w) = rg Z d rx_m21 5 [some (.ref a), l1] (.ref a :: S) (rz_mk h ι, w) := rz_s1 fun _ => rfl
theorem g21_5 : rg Z d rx_m21 5 L S (rz_mk h ι, w) = rg Z d rx_m21 6 L (.int 0 :: S) (rz_mk h ι, w) := rz_s1 fun _ => rfl
theorem g21_6 (c : rz_fI h a 3 1) (hz : Z.2.1 ≤ a) : rg Z d rx_m21 6 L (.int x :: .ref a :: S) (rz_mk h ι, w) = rg Z d rx_m21 9 L S (rz_mk h (rz_up ι a 1 x), w) := rz_pI rfl c hz
theorem g21_9 : rg Z d rx_m21 9 [some (.ref a), l1] S (rz_mk h ι, w) = rg Z d rx_m21 10 [some (.ref a), l1] (.ref a :: S) (rz_mk h ι, w) := rz_s1 fun _ => rfl
theorem g21_10 : rg Z d rx_m21 10 L S (rz_mk h ι, w) = rg Z d rx_m21 11 L (.int 0 :: S) (rz_mk h ι, w) := rz_s1 fun _ => rfl
theorem g21_11 (c : rz_fI h a 3 2) (hz : Z.2.1 ≤ a) : rg Z d rx_m21 11 L (.int x :: .ref a :: S) (rz_mk h ι, w) = rg Z d rx_m21 14 L S (rz_mk h (rz_up ι a 2 x), w) := rz_pI rfl c hz
theorem g21_14 : rg Z d rx_m21 14 [some (.ref a), l1] S (rz_mk h ι, w) = rg Z d rx_m21 15 [some (.ref a), l1] (.ref a :: S) (rz_mk h ι, w) := rz_s1 fun _ => rfl
theorem g21_15 : rg Z d rx_m21 15 L S (rz_mk h ι, w) = rg Z d rx_m21 17 L (.int 10 :: S) (rz_mk h ι, w) := rz_s1 fun _ => rfl
theorem g21_17 (c : rz_fI h a 3 3) (hz : Z.2.1 ≤ a) : rg Z d rx_m21 17 L (.int x :: .ref a :: S) (rz_mk h ι, w) = rg Z d rx_m21 20 L S (rz_mk h (rz_up ι a 3 x), w) := rz_pI rfl c hz
theorem g21_20 : rg Z d rx_m21 20 [some (.ref a), l1] S (rz_mk h ι, w) = rg Z d rx_m21 21 [some (.ref a), l1] (.ref a :: S) (rz_mk h ι, w) := rz_s1 fun _ => rfl
theorem g21_21 : rg Z d rx_m21 21 [l0, some (.ref a)] S (rz_mk h ι, w) = rg Z d rx_m21 22 [l0, some (.ref a)] (.ref a :: S) (rz_mk h ι, w) := rz_s1 fun _ => rfl
theorem g21_22 (c : rz_fR h a 3 0) (hv : rz_isr v = true) (hz : Z.2.1 ≤ a) : rg Z d rx_m21 22 L (v :: .ref a :: S) (rz_mk h ι, w) = rg Z d rx_m21 25 L S (rz_mk (rz_hs h a 0 v) ι, w) := rz_pR rfl c hv hz
theorem g21_25 : rg Z d rx_m21 25 L [] (rz_mk h ι, w) = some (.inl none, (rz_mk h ι, w)) := rz_r1 fun _ => rfl
theorem e21 : rz_f Z (d + 1) 21 [.ref t0, .ref t1] σ = rg Z d rx_m21 0 [some (.ref t0), some (.ref t1)] [] σ := rz_f_eq rfl (Nat.le_of_ble_eq_true rfl)
theorem g22_0 : rg Z d rx_m22 0 [some (.ref a), l1, l2] S (rz_mk h ι, w) = rg Z d rx_m22 1 [some (.ref a), l1, l2] (.ref a :: S) (rz_mk h ι, w) := rz_s1 fun _ => rfl
theorem g22_1 : rg Z d rx_m22 1 L S (rz_mk h ι, w) = rg Z d rx_m22 2 L (.int 0 :: S) (rz_mk h ι, w) := rz_s1 fun _ => rfl
theorem g22_2 (c : rz_fI h a 3 1) (hz : Z.2.1 ≤ a) : rg Z d rx_m22 2 L (.int x :: .ref a :: S) (rz_mk h ι, w) = rg Z d rx_m22 5 L S (rz_mk h (rz_up ι a 1 x), w) := rz_pI rfl c hz
theorem g22_5 : rg Z d rx_m22 5 [some (.ref a), l1, l2] S (rz_mk h ι, w) = rg Z d rx_m22 6 [some (.ref a), l1, l2] (.ref a :: S) (rz_mk h ι, w) := rz_s1 fun _ => rfl
theorem g22_6 : rg Z d rx_m22 6 L S (rz_mk h ι, w) = rg Z d rx_m22 7 L (.int 0 :: S) (rz_mk h ι, w) := rz_s1 fun _ => rfl
theorem g22_7 (c : rz_fI h a 3 2) (hz : Z.2.1 ≤ a) : rg Z d rx_m22 7 L (.int x :: .ref a :: S) (rz_mk h ι, w) = rg Z d rx_m22 10 L S (rz_mk h (rz_up ι a 2 x), w) := rz_pI rfl c hz
theorem g22_10 : rg Z d rx_m22 10 [some (.ref a), l1, l2] S (rz_mk h ι, w) = rg Z d rx_m22 11 [some (.ref a), l1, l2] (.ref a :: S) (rz_mk h ι, w) := rz_s1 fun _ => rfl
theorem g22_11 : rg Z d rx_m22 11 L S (rz_mk h ι, w) = rg Z d rx_m22 13 L (.int 10 :: S) (rz_mk h ι, w) := rz_s1 fun _ => rfl
theorem g22_13 (c : rz_fI h a 3 3) (hz : Z.2.1 ≤ a) : rg Z d rx_m22 13 L (.int x :: .ref a :: S) (rz_mk h ι, w) = rg Z d rx_m22 16 L S (rz_mk h (rz_up ι a 3 x), w) := rz_pI rfl c hz
theorem g22_16 : rg Z d rx_m22 16 L S (rz_mk h ι, w) = rg Z d rx_m22 17 L (.int 0 :: S) (rz_mk h ι, w) := rz_s1 fun _ => rfl
theorem g22_17 : rg Z d rx_m22 17 [l0, some (.ref b), l2] (.int x :: S) (rz_mk h ι, w) = rg Z d rx_m22 18 [l0, some (.ref b), some (.int x)] S (rz_mk h ι, w) := rz_s1 fun _ => rfl
theorem g22_18 : rg Z d rx_m22 18 [l0, l1, some (.int x)] S (rz_mk h ι, w) = rg Z d rx_m22 19 [l0, l1, some (.int x)] (.int x :: S) (rz_mk h ι, w) := rz_s1 fun _ => rfl
theorem g22_19 : rg Z d rx_m22 19 L S (rz_mk h ι, w) = rg Z d rx_m22 22 L (.int 600 :: S) (rz_mk h ι, w) := rz_s1 fun _ => rfl
theorem g22_22 : rg Z d rx_m22 22 L (.int y :: .int x :: S) (rz_mk h ι, w) = if y < x then rg Z d rx_m22 74 L S (rz_mk h ι, w) else rg Z d rx_m22 25 L S (rz_mk h ι, w) := rz_if2 (pc := 22) (t := 74) (off := 52) (cc := .gt) (by decide) rfl
theorem g22_25 : rg Z d rx_m22 25 [some (.ref a), l1, l2] S (rz_mk h ι, w) = rg Z d rx_m22 26 [some (.ref a), l1, l2] (.ref a :: S) (rz_mk h ι, w) := rz_s1 fun _ => rfl
theorem g22_26 (c : rz_fR h a 3 0) : rg Z d rx_m22 26 L (.ref a :: S) (rz_mk h ι, w) = rg Z d rx_m22 29 L (rz_rv h a 0 :: S) (rz_mk h ι, w) := rz_gR rfl (by decide) c
theorem g22_29 (c : rz_oc h a 9) : rg Z d rx_m22 29 L (.ref a :: []) (rz_mk h ι, w) = rz_k true (rz_f Z d 94 [.ref a] (rz_mk h ι, w)) (fun v σ' => rg Z d rx_m22 32 L (v.toList ++ []) σ') := rz_cv (pc := 29) (n := 0) (mi := 94) (S := .ref a :: []) (rest := []) rfl rfl (Nat.le_of_ble_eq_true rfl) (Nat.le_of_ble_eq_true rfl) c
theorem g22_32 : rg Z d rx_m22 32 L S (rz_mk h ι, w) = rg Z d rx_m22 33 L (.int (-1) :: S) (rz_mk h ι, w) := rz_s1 fun _ => rfl
theorem g22_33 : rg Z d rx_m22 33 L (.int y :: .int x :: S) (rz_mk h ι, w) = if x = y then rg Z d rx_m22 74 L S (rz_mk h ι, w) else rg Z d rx_m22 36 L S (rz_mk h ι, w) := rz_if2 (pc := 33) (t := 74) (off := 41) (cc := .eq) (by decide) rfl
theorem g22_36 : rg Z d rx_m22 36 [some (.ref a), l1, l2] S (rz_mk h ι, w) = rg Z d rx_m22 37 [some (.ref a), l1, l2] (.ref a :: S) (rz_mk h ι, w) := rz_s1 fun _ => rfl
theorem g22_37 : rg Z d rx_m22 37 [l0, some (.ref a), l2] S (rz_mk h ι, w) = rg Z d rx_m22 38 [l0, some (.ref a), l2] (.ref a :: S) (rz_mk h ι, w) := rz_s1 fun _ => rfl
theorem g22_38 (c : rz_oc h a 3) : rg Z d rx_m22 38 L (v1 :: .ref a :: []) (rz_mk h ι, w) = rz_k true (rz_f Z d 23 [.ref a, v1] (rz_mk h ι, w)) (fun v σ' => rg Z d rx_m22 41 L (v.toList ++ []) σ') := rz_cv (pc := 38) (n := 1) (mi := 23) (S := v1 :: .ref a :: []) (rest := []) rfl rfl (Nat.le_of_ble_eq_true rfl) (Nat.le_of_ble_eq_true rfl) c
theorem g22_41 : rg Z d rx_m22 41 L (.int x :: S) (rz_mk h ι, w) = if x = 0 then rg Z d rx_m22 56 L S (rz_mk h ι, w) else rg Z d rx_m22 44 L S (rz_mk h ι, w) := rz_if1 (pc := 41) (t := 56) (off := 15) (cc := .eq) (by decide) rfl
theorem g22_44 : rg Z d rx_m22 44 [some (.ref a), l1, l2] S (rz_mk h ι, w) = rg Z d rx_m22 45 [some (.ref a), l1, l2] (.ref a :: S) (rz_mk h ι, w) := rz_s1 fun _ => rfl
theorem g22_45 (c : rz_fR h a 3 0) : rg Z d rx_m22 45 L (.ref a :: S) (rz_mk h ι, w) = rg Z d rx_m22 48 L (rz_rv h a 0 :: S) (rz_mk h ι, w) := rz_gR rfl (by decide) c
theorem g22_48 : rg Z d rx_m22 48 L S (rz_mk h ι, w) = rg Z d rx_m22 50 L (.int 59 :: S) (rz_mk h ι, w) := rz_s1 fun _ => rfl
theorem g22_50 (c : rz_oc h a 9) : rg Z d rx_m22 50 L (v1 :: .ref a :: []) (rz_mk h ι, w) = rz_k true (rz_f Z d 96 [.ref a, v1] (rz_mk h ι, w)) (fun v σ' => rg Z d rx_m22 53 L (v.toList ++ []) σ') := rz_cv (pc := 50) (n := 1) (mi := 96) (S := v1 :: .ref a :: []) (rest := []) rfl rfl (Nat.le_of_ble_eq_true rfl) (Nat.le_of_ble_eq_true rfl) c
theorem g22_53 : rg Z d rx_m22 53 L (.int x :: S) (rz_mk h ι, w) = if x = 0 then rg Z d rx_m22 56 L S (rz_mk h ι, w) else rg Z d rx_m22 58 L S (rz_mk h ι, w) := rz_if1 (pc := 53) (t := 58) (off := 5) (cc := .ne) (by decide) rfl
theorem g22_56 : rg Z d rx_m22 56 L S (rz_mk h ι, w) = rg Z d rx_m22 57 L (.int 0 :: S) (rz_mk h ι, w) := rz_s1 fun _ => rfl
theorem g22_57 (c : narrow .boolean (.int x) = .int x) : rg Z d rx_m22 57 L [.int x] (rz_mk h ι, w) = some (.inl (some (.int x)), (rz_mk h ι, w)) := rz_reti rfl rfl c
theorem g22_58 : rg Z d rx_m22 58 [some (.ref a), l1, l2] S (rz_mk h ι, w) = rg Z d rx_m22 59 [some (.ref a), l1, l2] (.ref a :: S) (rz_mk h ι, w) := rz_s1 fun _ => rfl
theorem g22_59 : rg Z d rx_m22 59 L (.ref a :: S) (rz_mk h ι, w) = rg Z d rx_m22 60 L (.ref a :: .ref a :: S) (rz_mk h ι, w) := rz_s1 fun _ => rfl
theorem g22_60 (c : rz_fI h a 3 1) : rg Z d rx_m22 60 L (.ref a :: S) (rz_mk h ι, w) = rg Z d rx_m22 63 L (.int (ι a 1) :: S) (rz_mk h ι, w) := rz_gI rfl (by decide) c
theorem g22_63 : rg Z d rx_m22 63 L S (rz_mk h ι, w) = rg Z d rx_m22 64 L (.int 1 :: S) (rz_mk h ι, w) := rz_s1 fun _ => rfl
theorem g22_64 : rg Z d rx_m22 64 L (.int y :: .int x :: S) (rz_mk h ι, w) = rg Z d rx_m22 65 L (.int (x + y) :: S) (rz_mk h ι, w) := rz_s1 fun _ => rfl
theorem g22_65 (c : rz_fI h a 3 1) (hz : Z.2.1 ≤ a) : rg Z d rx_m22 65 L (.int x :: .ref a :: S) (rz_mk h ι, w) = rg Z d rx_m22 68 L S (rz_mk h (rz_up ι a 1 x), w) := rz_pI rfl c hz
theorem g22_68 : rg Z d rx_m22 68 [l0, some (.ref b), some (.int x)] S (rz_mk h ι, w) = rg Z d rx_m22 71 [l0, some (.ref b), some (.int (x + 1))] S (rz_mk h ι, w) := rz_s1 fun _ => rfl
theorem g22_71 : rg Z d rx_m22 71 L S (rz_mk h ι, w) = rg Z d rx_m22 18 L S (rz_mk h ι, w) := rz_s1 fun _ => rfl
theorem g22_74 : rg Z d rx_m22 74 [l0, some (.ref a), l2] S (rz_mk h ι, w) = rg Z d rx_m22 75 [l0, some (.ref a), l2] (.ref a :: S) (rz_mk h ι, w) := rz_s1 fun _ => rfl
theorem g22_75 : rg Z d rx_m22 75 [l0, some (.ref a), l2] S (rz_mk h ι, w) = rg Z d rx_m22 76 [l0, some (.ref a), l2] (.ref a :: S) (rz_mk h ι, w) := rz_s1 fun _ => rfl
theorem g22_76 (c : rz_fI h a 8 3) : rg Z d rx_m22 76 L (.ref a :: S) (rz_mk h ι, w) = rg Z d rx_m22 79 L (.int (ι a 3) :: S) (rz_mk h ι, w) := rz_gI rfl (by decide) c
theorem g22_79 : rg Z d rx_m22 79 L (.int x :: S) (rz_mk h ι, w) = if x = 0 then rg Z d rx_m22 82 L S (rz_mk h ι, w) else rg Z d rx_m22 86 L S (rz_mk h ι, w) := rz_if1 (pc := 79) (t := 86) (off := 7) (cc := .ne) (by decide) rfl
theorem g22_82 : rg Z d rx_m22 82 L S (rz_mk h ι, w) = rg Z d rx_m22 83 L (.int (-1) :: S) (rz_mk h ι, w) := rz_s1 fun _ => rfl
theorem g22_83 : rg Z d rx_m22 83 L S (rz_mk h ι, w) = rg Z d rx_m22 90 L S (rz_mk h ι, w) := rz_s1 fun _ => rfl
theorem g22_86 : rg Z d rx_m22 86 [some (.ref a), l1, l2] S (rz_mk h ι, w) = rg Z d rx_m22 87 [some (.ref a), l1, l2] (.ref a :: S) (rz_mk h ι, w) := rz_s1 fun _ => rfl
theorem g22_87 (c : rz_fI h a 3 2) : rg Z d rx_m22 87 L (.ref a :: S) (rz_mk h ι, w) = rg Z d rx_m22 90 L (.int (ι a 2) :: S) (rz_mk h ι, w) := rz_gI rfl (by decide) c
theorem g22_90 (c : rz_oc h a 8) : rg Z d rx_m22 90 L (v1 :: .ref a :: []) (rz_mk h ι, w) = rz_k true (rz_f Z d 80 [.ref a, v1] (rz_mk h ι, w)) (fun v σ' => rg Z d rx_m22 93 L (v.toList ++ []) σ') := rz_cv (pc := 90) (n := 1) (mi := 80) (S := v1 :: .ref a :: []) (rest := []) rfl rfl (Nat.le_of_ble_eq_true rfl) (Nat.le_of_ble_eq_true rfl) c
theorem g22_93 : rg Z d rx_m22 93 L S (rz_mk h ι, w) = rg Z d rx_m22 94 L (.int 1 :: S) (rz_mk h ι, w) := rz_s1 fun _ => rfl
theorem g22_94 (c : narrow .boolean (.int x) = .int x) : rg Z d rx_m22 94 L [.int x] (rz_mk h ι, w) = some (.inl (some (.int x)), (rz_mk h ι, w)) := rz_reti rfl rfl c
theorem e22 : rz_f Z (d + 1) 22 [.ref t0, .ref t1] σ = rg Z d rx_m22 0 [some (.ref t0), some (.ref t1), none] [] σ := rz_f_eq rfl (Nat.le_of_ble_eq_true rfl)
theorem g23_0 : rg Z d rx_m23 0 [some (.ref a), l1] S (rz_mk h ι, w) = rg Z d rx_m23 1 [some (.ref a), l1] (.ref a :: S) (rz_mk h ι, w) := rz_s1 fun _ => rfl
theorem g23_1 (c : rz_fR h a 3 0) : rg Z d rx_m23 1 L (.ref a :: S) (rz_mk h ι, w) = rg Z d rx_m23 4 L (rz_rv h a 0 :: S) (rz_mk h ι, w) := rz_gR rfl (by decide) c
theorem g23_4 (c : rz_oc h a 9) : rg Z d rx_m23 4 L (.ref a :: []) (rz_mk h ι, w) = rz_k true (rz_f Z d 100 [.ref a] (rz_mk h ι, w)) (fun v σ' => rg Z d rx_m23 7 L (v.toList ++ []) σ') := rz_cv (pc := 4) (n := 0) (mi := 100) (S := .ref a :: []) (rest := []) rfl rfl (Nat.le_of_ble_eq_true rfl) (Nat.le_of_ble_eq_true rfl) c
theorem g23_7 : rg Z d rx_m23 7 [some (.ref a), l1] S (rz_mk h ι, w) = rg Z d rx_m23 8 [some (.ref a), l1] (.ref a :: S) (rz_mk h ι, w) := rz_s1 fun _ => rfl
theorem g23_8 (c : rz_fR h a 3 0) : rg Z d rx_m23 8 L (.ref a :: S) (rz_mk h ι, w) = rg Z d rx_m23 11 L (rz_rv h a 0 :: S) (rz_mk h ι, w) := rz_gR rfl (by decide) c
theorem g23_11 : rg Z d rx_m23 11 L S (rz_mk h ι, w) = rg Z d rx_m23 13 L (.ref (Z.2.2.2 1) :: S) (rz_mk h ι, w) := rz_s1 fun _ => rfl
theorem g23_13 (c : rz_oc h a 9) : rg Z d rx_m23 13 L (v1 :: .ref a :: []) (rz_mk h ι, w) = rz_k true (rz_f Z d 101 [.ref a, v1] (rz_mk h ι, w)) (fun v σ' => rg Z d rx_m23 16 L (v.toList ++ []) σ') := rz_cv (pc := 13) (n := 1) (mi := 101) (S := v1 :: .ref a :: []) (rest := []) rfl rfl (Nat.le_of_ble_eq_true rfl) (Nat.le_of_ble_eq_true rfl) c
theorem g23_16 : rg Z d rx_m23 16 L (.int x :: S) (rz_mk h ι, w) = if x = 0 then rg Z d rx_m23 54 L S (rz_mk h ι, w) else rg Z d rx_m23 19 L S (rz_mk h ι, w) := rz_if1 (pc := 16) (t := 54) (off := 38) (cc := .eq) (by decide) rfl
theorem g23_19 : rg Z d rx_m23 19 [some (.ref a), l1] S (rz_mk h ι, w) = rg Z d rx_m23 20 [some (.ref a), l1] (.ref a :: S) (rz_mk h ι, w) := rz_s1 fun _ => rfl
theorem g23_20 : rg Z d rx_m23 20 [l0, some (.ref a)] S (rz_mk h ι, w) = rg Z d rx_m23 21 [l0, some (.ref a)] (.ref a :: S) (rz_mk h ι, w) := rz_s1 fun _ => rfl
theorem g23_21 (c : rz_fI h a 8 3) : rg Z d rx_m23 21 L (.ref a :: S) (rz_mk h ι, w) = rg Z d rx_m23 24 L (.int (ι a 3) :: S) (rz_mk h ι, w) := rz_gI rfl (by decide) c
theorem g23_24 : rg Z d rx_m23 24 L S (rz_mk h ι, w) = rg Z d rx_m23 26 L (.int 8 :: S) (rz_mk h ι, w) := rz_s1 fun _ => rfl
theorem g23_26 : rg Z d rx_m23 26 L (.int y :: .int x :: S) (rz_mk h ι, w) = if x < y then rg Z d rx_m23 29 L S (rz_mk h ι, w) else rg Z d rx_m23 33 L S (rz_mk h ι, w) := rz_if2 (pc := 26) (t := 33) (off := 7) (cc := .ge) (by decide) rfl
theorem g23_29 : rg Z d rx_m23 29 L S (rz_mk h ι, w) = rg Z d rx_m23 30 L (.int 1 :: S) (rz_mk h ι, w) := rz_s1 fun _ => rfl
theorem g23_30 : rg Z d rx_m23 30 L S (rz_mk h ι, w) = rg Z d rx_m23 34 L S (rz_mk h ι, w) := rz_s1 fun _ => rfl
theorem g23_33 : rg Z d rx_m23 33 L S (rz_mk h ι, w) = rg Z d rx_m23 34 L (.int 0 :: S) (rz_mk h ι, w) := rz_s1 fun _ => rfl
theorem g23_34 (c : rz_oc h a 3) : rg Z d rx_m23 34 L (v1 :: .ref a :: []) (rz_mk h ι, w) = rz_k true (rz_f Z d 24 [.ref a, v1] (rz_mk h ι, w)) (fun v σ' => rg Z d rx_m23 37 L (v.toList ++ []) σ') := rz_cv (pc := 34) (n := 1) (mi := 24) (S := v1 :: .ref a :: []) (rest := []) rfl rfl (Nat.le_of_ble_eq_true rfl) (Nat.le_of_ble_eq_true rfl) c
theorem g23_37 : rg Z d rx_m23 37 L (.int x :: S) (rz_mk h ι, w) = if x = 0 then rg Z d rx_m23 52 L S (rz_mk h ι, w) else rg Z d rx_m23 40 L S (rz_mk h ι, w) := rz_if1 (pc := 37) (t := 52) (off := 15) (cc := .eq) (by decide) rfl
theorem g23_40 : rg Z d rx_m23 40 [some (.ref a), l1] S (rz_mk h ι, w) = rg Z d rx_m23 41 [some (.ref a), l1] (.ref a :: S) (rz_mk h ι, w) := rz_s1 fun _ => rfl
theorem g23_41 : rg Z d rx_m23 41 [l0, some (.ref a)] S (rz_mk h ι, w) = rg Z d rx_m23 42 [l0, some (.ref a)] (.ref a :: S) (rz_mk h ι, w) := rz_s1 fun _ => rfl
theorem g23_42 (c : rz_oc h a 3) : rg Z d rx_m23 42 L (v1 :: .ref a :: []) (rz_mk h ι, w) = rz_k true (rz_f Z d 25 [.ref a, v1] (rz_mk h ι, w)) (fun v σ' => rg Z d rx_m23 45 L (v.toList ++ []) σ') := rz_cv (pc := 42) (n := 1) (mi := 25) (S := v1 :: .ref a :: []) (rest := []) rfl rfl (Nat.le_of_ble_eq_true rfl) (Nat.le_of_ble_eq_true rfl) c
theorem g23_45 : rg Z d rx_m23 45 L (.int x :: S) (rz_mk h ι, w) = if x = 0 then rg Z d rx_m23 52 L S (rz_mk h ι, w) else rg Z d rx_m23 48 L S (rz_mk h ι, w) := rz_if1 (pc := 45) (t := 52) (off := 7) (cc := .eq) (by decide) rfl
theorem g23_48 : rg Z d rx_m23 48 L S (rz_mk h ι, w) = rg Z d rx_m23 49 L (.int 1 :: S) (rz_mk h ι, w) := rz_s1 fun _ => rfl
theorem g23_49 : rg Z d rx_m23 49 L S (rz_mk h ι, w) = rg Z d rx_m23 53 L S (rz_mk h ι, w) := rz_s1 fun _ => rfl
theorem g23_52 : rg Z d rx_m23 52 L S (rz_mk h ι, w) = rg Z d rx_m23 53 L (.int 0 :: S) (rz_mk h ι, w) := rz_s1 fun _ => rfl
theorem g23_53 (c : narrow .boolean (.int x) = .int x) : rg Z d rx_m23 53 L [.int x] (rz_mk h ι, w) = some (.inl (some (.int x)), (rz_mk h ι, w)) := rz_reti rfl rfl c
theorem g23_54 : rg Z d rx_m23 54 [some (.ref a), l1] S (rz_mk h ι, w) = rg Z d rx_m23 55 [some (.ref a), l1] (.ref a :: S) (rz_mk h ι, w) := rz_s1 fun _ => rfl
theorem g23_55 (c : rz_fR h a 3 0) : rg Z d rx_m23 55 L (.ref a :: S) (rz_mk h ι, w) = rg Z d rx_m23 58 L (rz_rv h a 0 :: S) (rz_mk h ι, w) := rz_gR rfl (by decide) c
theorem g23_58 : rg Z d rx_m23 58 L S (rz_mk h ι, w) = rg Z d rx_m23 60 L (.ref (Z.2.2.2 2) :: S) (rz_mk h ι, w) := rz_s1 fun _ => rfl
theorem g23_60 (c : rz_oc h a 9) : rg Z d rx_m23 60 L (v1 :: .ref a :: []) (rz_mk h ι, w) = rz_k true (rz_f Z d 101 [.ref a, v1] (rz_mk h ι, w)) (fun v σ' => rg Z d rx_m23 63 L (v.toList ++ []) σ') := rz_cv (pc := 60) (n := 1) (mi := 101) (S := v1 :: .ref a :: []) (rest := []) rfl rfl (Nat.le_of_ble_eq_true rfl) (Nat.le_of_ble_eq_true rfl) c
theorem g23_63 : rg Z d rx_m23 63 L (.int x :: S) (rz_mk h ι, w) = if x = 0 then rg Z d rx_m23 88 L S (rz_mk h ι, w) else rg Z d rx_m23 66 L S (rz_mk h ι, w) := rz_if1 (pc := 63) (t := 88) (off := 25) (cc := .eq) (by decide) rfl
theorem g23_66 : rg Z d rx_m23 66 [some (.ref a), l1] S (rz_mk h ι, w) = rg Z d rx_m23 67 [some (.ref a), l1] (.ref a :: S) (rz_mk h ι, w) := rz_s1 fun _ => rfl
theorem g23_67 : rg Z d rx_m23 67 L S (rz_mk h ι, w) = rg Z d rx_m23 68 L (.int 1 :: S) (rz_mk h ι, w) := rz_s1 fun _ => rfl
theorem g23_68 (c : rz_oc h a 3) : rg Z d rx_m23 68 L (v1 :: .ref a :: []) (rz_mk h ι, w) = rz_k true (rz_f Z d 24 [.ref a, v1] (rz_mk h ι, w)) (fun v σ' => rg Z d rx_m23 71 L (v.toList ++ []) σ') := rz_cv (pc := 68) (n := 1) (mi := 24) (S := v1 :: .ref a :: []) (rest := []) rfl rfl (Nat.le_of_ble_eq_true rfl) (Nat.le_of_ble_eq_true rfl) c
theorem g23_71 : rg Z d rx_m23 71 L (.int x :: S) (rz_mk h ι, w) = if x = 0 then rg Z d rx_m23 86 L S (rz_mk h ι, w) else rg Z d rx_m23 74 L S (rz_mk h ι, w) := rz_if1 (pc := 71) (t := 86) (off := 15) (cc := .eq) (by decide) rfl
theorem g23_74 : rg Z d rx_m23 74 [some (.ref a), l1] S (rz_mk h ι, w) = rg Z d rx_m23 75 [some (.ref a), l1] (.ref a :: S) (rz_mk h ι, w) := rz_s1 fun _ => rfl
theorem g23_75 : rg Z d rx_m23 75 [l0, some (.ref a)] S (rz_mk h ι, w) = rg Z d rx_m23 76 [l0, some (.ref a)] (.ref a :: S) (rz_mk h ι, w) := rz_s1 fun _ => rfl
theorem g23_76 (c : rz_oc h a 3) : rg Z d rx_m23 76 L (v1 :: .ref a :: []) (rz_mk h ι, w) = rz_k true (rz_f Z d 26 [.ref a, v1] (rz_mk h ι, w)) (fun v σ' => rg Z d rx_m23 79 L (v.toList ++ []) σ') := rz_cv (pc := 76) (n := 1) (mi := 26) (S := v1 :: .ref a :: []) (rest := []) rfl rfl (Nat.le_of_ble_eq_true rfl) (Nat.le_of_ble_eq_true rfl) c
theorem g23_79 : rg Z d rx_m23 79 L (.int x :: S) (rz_mk h ι, w) = if x = 0 then rg Z d rx_m23 86 L S (rz_mk h ι, w) else rg Z d rx_m23 82 L S (rz_mk h ι, w) := rz_if1 (pc := 79) (t := 86) (off := 7) (cc := .eq) (by decide) rfl
theorem g23_82 : rg Z d rx_m23 82 L S (rz_mk h ι, w) = rg Z d rx_m23 83 L (.int 1 :: S) (rz_mk h ι, w) := rz_s1 fun _ => rfl
theorem g23_83 : rg Z d rx_m23 83 L S (rz_mk h ι, w) = rg Z d rx_m23 87 L S (rz_mk h ι, w) := rz_s1 fun _ => rfl
theorem g23_86 : rg Z d rx_m23 86 L S (rz_mk h ι, w) = rg Z d rx_m23 87 L (.int 0 :: S) (rz_mk h ι, w) := rz_s1 fun _ => rfl
theorem g23_87 (c : narrow .boolean (.int x) = .int x) : rg Z d rx_m23 87 L [.int x] (rz_mk h ι, w) = some (.inl (some (.int x)), (rz_mk h ι, w)) := rz_reti rfl rfl c
theorem g23_88 : rg Z d rx_m23 88 [some (.ref a), l1] S (rz_mk h ι, w) = rg Z d rx_m23 89 [some (.ref a), l1] (.ref a :: S) (rz_mk h ι, w) := rz_s1 fun _ => rfl
theorem g23_89 (c : rz_fR h a 3 0) : rg Z d rx_m23 89 L (.ref a :: S) (rz_mk h ι, w) = rg Z d rx_m23 92 L (rz_rv h a 0 :: S) (rz_mk h ι, w) := rz_gR rfl (by decide) c
theorem g23_92 : rg Z d rx_m23 92 L S (rz_mk h ι, w) = rg Z d rx_m23 94 L (.ref (Z.2.2.2 3) :: S) (rz_mk h ι, w) := rz_s1 fun _ => rfl
theorem g23_94 (c : rz_oc h a 9) : rg Z d rx_m23 94 L (v1 :: .ref a :: []) (rz_mk h ι, w) = rz_k true (rz_f Z d 101 [.ref a, v1] (rz_mk h ι, w)) (fun v σ' => rg Z d rx_m23 97 L (v.toList ++ []) σ') := rz_cv (pc := 94) (n := 1) (mi := 101) (S := v1 :: .ref a :: []) (rest := []) rfl rfl (Nat.le_of_ble_eq_true rfl) (Nat.le_of_ble_eq_true rfl) c
theorem g23_97 : rg Z d rx_m23 97 L (.int x :: S) (rz_mk h ι, w) = if x = 0 then rg Z d rx_m23 121 L S (rz_mk h ι, w) else rg Z d rx_m23 100 L S (rz_mk h ι, w) := rz_if1 (pc := 97) (t := 121) (off := 24) (cc := .eq) (by decide) rfl
theorem g23_100 : rg Z d rx_m23 100 [some (.ref a), l1] S (rz_mk h ι, w) = rg Z d rx_m23 101 [some (.ref a), l1] (.ref a :: S) (rz_mk h ι, w) := rz_s1 fun _ => rfl
theorem g23_101 : rg Z d rx_m23 101 L S (rz_mk h ι, w) = rg Z d rx_m23 102 L (.int 1 :: S) (rz_mk h ι, w) := rz_s1 fun _ => rfl
theorem g23_102 (c : rz_oc h a 3) : rg Z d rx_m23 102 L (v1 :: .ref a :: []) (rz_mk h ι, w) = rz_k true (rz_f Z d 24 [.ref a, v1] (rz_mk h ι, w)) (fun v σ' => rg Z d rx_m23 105 L (v.toList ++ []) σ') := rz_cv (pc := 102) (n := 1) (mi := 24) (S := v1 :: .ref a :: []) (rest := []) rfl rfl (Nat.le_of_ble_eq_true rfl) (Nat.le_of_ble_eq_true rfl) c
theorem g23_105 : rg Z d rx_m23 105 L (.int x :: S) (rz_mk h ι, w) = if x = 0 then rg Z d rx_m23 119 L S (rz_mk h ι, w) else rg Z d rx_m23 108 L S (rz_mk h ι, w) := rz_if1 (pc := 105) (t := 119) (off := 14) (cc := .eq) (by decide) rfl
theorem g23_108 : rg Z d rx_m23 108 [some (.ref a), l1] S (rz_mk h ι, w) = rg Z d rx_m23 109 [some (.ref a), l1] (.ref a :: S) (rz_mk h ι, w) := rz_s1 fun _ => rfl
theorem g23_109 (c : rz_oc h a 3) : rg Z d rx_m23 109 L (.ref a :: []) (rz_mk h ι, w) = rz_k true (rz_f Z d 27 [.ref a] (rz_mk h ι, w)) (fun v σ' => rg Z d rx_m23 112 L (v.toList ++ []) σ') := rz_cv (pc := 109) (n := 0) (mi := 27) (S := .ref a :: []) (rest := []) rfl rfl (Nat.le_of_ble_eq_true rfl) (Nat.le_of_ble_eq_true rfl) c
theorem g23_112 : rg Z d rx_m23 112 L (.int x :: S) (rz_mk h ι, w) = if x = 0 then rg Z d rx_m23 119 L S (rz_mk h ι, w) else rg Z d rx_m23 115 L S (rz_mk h ι, w) := rz_if1 (pc := 112) (t := 119) (off := 7) (cc := .eq) (by decide) rfl
theorem g23_115 : rg Z d rx_m23 115 L S (rz_mk h ι, w) = rg Z d rx_m23 116 L (.int 1 :: S) (rz_mk h ι, w) := rz_s1 fun _ => rfl
theorem g23_116 : rg Z d rx_m23 116 L S (rz_mk h ι, w) = rg Z d rx_m23 120 L S (rz_mk h ι, w) := rz_s1 fun _ => rfl
theorem g23_119 : rg Z d rx_m23 119 L S (rz_mk h ι, w) = rg Z d rx_m23 120 L (.int 0 :: S) (rz_mk h ι, w) := rz_s1 fun _ => rfl
theorem g23_120 (c : narrow .boolean (.int x) = .int x) : rg Z d rx_m23 120 L [.int x] (rz_mk h ι, w) = some (.inl (some (.int x)), (rz_mk h ι, w)) := rz_reti rfl rfl c
theorem g23_121 : rg Z d rx_m23 121 [some (.ref a), l1] S (rz_mk h ι, w) = rg Z d rx_m23 122 [some (.ref a), l1] (.ref a :: S) (rz_mk h ι, w) := rz_s1 fun _ => rfl
theorem g23_122 (c : rz_fR h a 3 0) : rg Z d rx_m23 122 L (.ref a :: S) (rz_mk h ι, w) = rg Z d rx_m23 125 L (rz_rv h a 0 :: S) (rz_mk h ι, w) := rz_gR rfl (by decide) c
theorem g23_125 : rg Z d rx_m23 125 L S (rz_mk h ι, w) = rg Z d rx_m23 126 L (.int 1 :: S) (rz_mk h ι, w) := rz_s1 fun _ => rfl
theorem g23_126 (c : rz_oc h a 9) : rg Z d rx_m23 126 L (v1 :: .ref a :: []) (rz_mk h ι, w) = rz_k true (rz_f Z d 92 [.ref a, v1] (rz_mk h ι, w)) (fun v σ' => rg Z d rx_m23 129 L (v.toList ++ []) σ') := rz_cv (pc := 126) (n := 1) (mi := 92) (S := v1 :: .ref a :: []) (rest := []) rfl rfl (Nat.le_of_ble_eq_true rfl) (Nat.le_of_ble_eq_true rfl) c
theorem g23_129 (c : narrow .boolean (.int x) = .int x) : rg Z d rx_m23 129 L [.int x] (rz_mk h ι, w) = some (.inl (some (.int x)), (rz_mk h ι, w)) := rz_reti rfl rfl c
theorem e23 : rz_f Z (d + 1) 23 [.ref t0, .ref t1] σ = rg Z d rx_m23 0 [some (.ref t0), some (.ref t1)] [] σ := rz_f_eq rfl (Nat.le_of_ble_eq_true rfl)
theorem g24_0 : rg Z d rx_m24 0 [l0, some (.int x)] S (rz_mk h ι, w) = rg Z d rx_m24 1 [l0, some (.int x)] (.int x :: S) (rz_mk h ι, w) := rz_s1 fun _ => rfl
theorem g24_1 : rg Z d rx_m24 1 L (.int x :: S) (rz_mk h ι, w) = if x = 0 then rg Z d rx_m24 13 L S (rz_mk h ι, w) else rg Z d rx_m24 4 L S (rz_mk h ι, w) := rz_if1 (pc := 1) (t := 13) (off := 12) (cc := .eq) (by decide) rfl
theorem g24_4 : rg Z d rx_m24 4 [some (.ref a), l1] S (rz_mk h ι, w) = rg Z d rx_m24 5 [some (.ref a), l1] (.ref a :: S) (rz_mk h ι, w) := rz_s1 fun _ => rfl
theorem g24_5 (c : rz_fI h a 3 1) : rg Z d rx_m24 5 L (.ref a :: S) (rz_mk h ι, w) = rg Z d rx_m24 8 L (.int (ι a 1) :: S) (rz_mk h ι, w) := rz_gI rfl (by decide) c
theorem g24_8 : rg Z d rx_m24 8 L S (rz_mk h ι, w) = rg Z d rx_m24 10 L (.int 60 :: S) (rz_mk h ι, w) := rz_s1 fun _ => rfl
theorem g24_10 : rg Z d rx_m24 10 L (.int y :: .int x :: S) (rz_mk h ι, w) = if x < y then rg Z d rx_m24 24 L S (rz_mk h ι, w) else rg Z d rx_m24 13 L S (rz_mk h ι, w) := rz_if2 (pc := 10) (t := 24) (off := 14) (cc := .lt) (by decide) rfl
theorem g24_13 : rg Z d rx_m24 13 [some (.ref a), l1] S (rz_mk h ι, w) = rg Z d rx_m24 14 [some (.ref a), l1] (.ref a :: S) (rz_mk h ι, w) := rz_s1 fun _ => rfl
theorem g24_14 (c : rz_fR h a 3 0) : rg Z d rx_m24 14 L (.ref a :: S) (rz_mk h ι, w) = rg Z d rx_m24 17 L (rz_rv h a 0 :: S) (rz_mk h ι, w) := rz_gR rfl (by decide) c
theorem g24_17 : rg Z d rx_m24 17 L S (rz_mk h ι, w) = rg Z d rx_m24 18 L (.int 3 :: S) (rz_mk h ι, w) := rz_s1 fun _ => rfl
theorem g24_18 (c : rz_oc h a 9) : rg Z d rx_m24 18 L (v1 :: .ref a :: []) (rz_mk h ι, w) = rz_k true (rz_f Z d 92 [.ref a, v1] (rz_mk h ι, w)) (fun v σ' => rg Z d rx_m24 21 L (v.toList ++ []) σ') := rz_cv (pc := 18) (n := 1) (mi := 92) (S := v1 :: .ref a :: []) (rest := []) rfl rfl (Nat.le_of_ble_eq_true rfl) (Nat.le_of_ble_eq_true rfl) c
theorem g24_21 : rg Z d rx_m24 21 L (.int x :: S) (rz_mk h ι, w) = if x = 0 then rg Z d rx_m24 28 L S (rz_mk h ι, w) else rg Z d rx_m24 24 L S (rz_mk h ι, w) := rz_if1 (pc := 21) (t := 28) (off := 7) (cc := .eq) (by decide) rfl
theorem g24_24 : rg Z d rx_m24 24 L S (rz_mk h ι, w) = rg Z d rx_m24 25 L (.int 1 :: S) (rz_mk h ι, w) := rz_s1 fun _ => rfl
theorem g24_25 : rg Z d rx_m24 25 L S (rz_mk h ι, w) = rg Z d rx_m24 29 L S (rz_mk h ι, w) := rz_s1 fun _ => rfl
theorem g24_28 : rg Z d rx_m24 28 L S (rz_mk h ι, w) = rg Z d rx_m24 29 L (.int 0 :: S) (rz_mk h ι, w) := rz_s1 fun _ => rfl
theorem g24_29 (c : narrow .boolean (.int x) = .int x) : rg Z d rx_m24 29 L [.int x] (rz_mk h ι, w) = some (.inl (some (.int x)), (rz_mk h ι, w)) := rz_reti rfl rfl c
theorem e24 : rz_f Z (d + 1) 24 [.ref t0, .int s1] σ = rg Z d rx_m24 0 [some (.ref t0), some (.int s1)] [] σ := rz_f_eq rfl (Nat.le_of_ble_eq_true rfl)
theorem g25_0 : rg Z d rx_m25 0 [some (.ref a), l1, l2, l3, l4] S (rz_mk h ι, w) = rg Z d rx_m25 1 [some (.ref a), l1, l2, l3, l4] (.ref a :: S) (rz_mk h ι, w) := rz_s1 fun _ => rfl
theorem g25_1 (c : rz_fR h a 3 0) : rg Z d rx_m25 1 L (.ref a :: S) (rz_mk h ι, w) = rg Z d rx_m25 4 L (rz_rv h a 0 :: S) (rz_mk h ι, w) := rz_gR rfl (by decide) c
theorem g25_4 : rg Z d rx_m25 4 L S (rz_mk h ι, w) = rg Z d rx_m25 6 L (.int 9 :: S) (rz_mk h ι, w) := rz_s1 fun _ => rfl
theorem g25_6 (c : rz_oc h a 9) : rg Z d rx_m25 6 L (v1 :: .ref a :: []) (rz_mk h ι, w) = rz_k true (rz_f Z d 99 [.ref a, v1] (rz_mk h ι, w)) (fun v σ' => rg Z d rx_m25 9 L (v.toList ++ []) σ') := rz_cv (pc := 6) (n := 1) (mi := 99) (S := v1 :: .ref a :: []) (rest := []) rfl rfl (Nat.le_of_ble_eq_true rfl) (Nat.le_of_ble_eq_true rfl) c
theorem g25_9 : rg Z d rx_m25 9 [l0, some (.ref b), l2, l3, l4] (.int x :: S) (rz_mk h ι, w) = rg Z d rx_m25 10 [l0, some (.ref b), some (.int x), l3, l4] S (rz_mk h ι, w) := rz_s1 fun _ => rfl
theorem g25_10 : rg Z d rx_m25 10 [l0, l1, some (.int x), l3, l4] S (rz_mk h ι, w) = rg Z d rx_m25 11 [l0, l1, some (.int x), l3, l4] (.int x :: S) (rz_mk h ι, w) := rz_s1 fun _ => rfl
theorem g25_11 : rg Z d rx_m25 11 L S (rz_mk h ι, w) = rg Z d rx_m25 12 L (.int (-1) :: S) (rz_mk h ι, w) := rz_s1 fun _ => rfl
theorem g25_12 : rg Z d rx_m25 12 L (.int y :: .int x :: S) (rz_mk h ι, w) = if x = y then rg Z d rx_m25 15 L S (rz_mk h ι, w) else rg Z d rx_m25 19 L S (rz_mk h ι, w) := rz_if2 (pc := 12) (t := 19) (off := 7) (cc := .ne) (by decide) rfl
theorem g25_15 : rg Z d rx_m25 15 L S (rz_mk h ι, w) = rg Z d rx_m25 16 L (.int (-1) :: S) (rz_mk h ι, w) := rz_s1 fun _ => rfl
theorem g25_16 : rg Z d rx_m25 16 L S (rz_mk h ι, w) = rg Z d rx_m25 28 L S (rz_mk h ι, w) := rz_s1 fun _ => rfl
theorem g25_19 : rg Z d rx_m25 19 [some (.ref a), l1, l2, l3, l4] S (rz_mk h ι, w) = rg Z d rx_m25 20 [some (.ref a), l1, l2, l3, l4] (.ref a :: S) (rz_mk h ι, w) := rz_s1 fun _ => rfl
theorem g25_20 (c : rz_fR h a 3 0) : rg Z d rx_m25 20 L (.ref a :: S) (rz_mk h ι, w) = rg Z d rx_m25 23 L (rz_rv h a 0 :: S) (rz_mk h ι, w) := rz_gR rfl (by decide) c
theorem g25_23 : rg Z d rx_m25 23 L S (rz_mk h ι, w) = rg Z d rx_m25 25 L (.int 9 :: S) (rz_mk h ι, w) := rz_s1 fun _ => rfl
theorem g25_25 (c : rz_oc h a 9) : rg Z d rx_m25 25 L (v1 :: .ref a :: []) (rz_mk h ι, w) = rz_k true (rz_f Z d 99 [.ref a, v1] (rz_mk h ι, w)) (fun v σ' => rg Z d rx_m25 28 L (v.toList ++ []) σ') := rz_cv (pc := 25) (n := 1) (mi := 99) (S := v1 :: .ref a :: []) (rest := []) rfl rfl (Nat.le_of_ble_eq_true rfl) (Nat.le_of_ble_eq_true rfl) c
theorem g25_28 : rg Z d rx_m25 28 [l0, l1, some (.int z), l3, l4] (.int x :: S) (rz_mk h ι, w) = rg Z d rx_m25 29 [l0, l1, some (.int z), some (.int x), l4] S (rz_mk h ι, w) := rz_s1 fun _ => rfl
theorem g25_29 : rg Z d rx_m25 29 [l0, l1, l2, some (.int x), l4] S (rz_mk h ι, w) = rg Z d rx_m25 30 [l0, l1, l2, some (.int x), l4] (.int x :: S) (rz_mk h ι, w) := rz_s1 fun _ => rfl
theorem g25_30 : rg Z d rx_m25 30 L S (rz_mk h ι, w) = rg Z d rx_m25 31 L (.int (-1) :: S) (rz_mk h ι, w) := rz_s1 fun _ => rfl
theorem g25_31 : rg Z d rx_m25 31 L (.int y :: .int x :: S) (rz_mk h ι, w) = if x = y then rg Z d rx_m25 34 L S (rz_mk h ι, w) else rg Z d rx_m25 38 L S (rz_mk h ι, w) := rz_if2 (pc := 31) (t := 38) (off := 7) (cc := .ne) (by decide) rfl
theorem g25_34 : rg Z d rx_m25 34 L S (rz_mk h ι, w) = rg Z d rx_m25 35 L (.int (-1) :: S) (rz_mk h ι, w) := rz_s1 fun _ => rfl
theorem g25_35 : rg Z d rx_m25 35 L S (rz_mk h ι, w) = rg Z d rx_m25 47 L S (rz_mk h ι, w) := rz_s1 fun _ => rfl
theorem g25_38 : rg Z d rx_m25 38 [some (.ref a), l1, l2, l3, l4] S (rz_mk h ι, w) = rg Z d rx_m25 39 [some (.ref a), l1, l2, l3, l4] (.ref a :: S) (rz_mk h ι, w) := rz_s1 fun _ => rfl
theorem g25_39 (c : rz_fR h a 3 0) : rg Z d rx_m25 39 L (.ref a :: S) (rz_mk h ι, w) = rg Z d rx_m25 42 L (rz_rv h a 0 :: S) (rz_mk h ι, w) := rz_gR rfl (by decide) c
theorem g25_42 : rg Z d rx_m25 42 L S (rz_mk h ι, w) = rg Z d rx_m25 44 L (.int 9 :: S) (rz_mk h ι, w) := rz_s1 fun _ => rfl
theorem g25_44 (c : rz_oc h a 9) : rg Z d rx_m25 44 L (v1 :: .ref a :: []) (rz_mk h ι, w) = rz_k true (rz_f Z d 99 [.ref a, v1] (rz_mk h ι, w)) (fun v σ' => rg Z d rx_m25 47 L (v.toList ++ []) σ') := rz_cv (pc := 44) (n := 1) (mi := 99) (S := v1 :: .ref a :: []) (rest := []) rfl rfl (Nat.le_of_ble_eq_true rfl) (Nat.le_of_ble_eq_true rfl) c
theorem g25_47 : rg Z d rx_m25 47 [l0, l1, l2, some (.int z), l4] (.int x :: S) (rz_mk h ι, w) = rg Z d rx_m25 49 [l0, l1, l2, some (.int z), some (.int x)] S (rz_mk h ι, w) := rz_s1 fun _ => rfl
theorem g25_49 : rg Z d rx_m25 49 [l0, l1, l2, l3, some (.int x)] S (rz_mk h ι, w) = rg Z d rx_m25 51 [l0, l1, l2, l3, some (.int x)] (.int x :: S) (rz_mk h ι, w) := rz_s1 fun _ => rfl
theorem g25_51 : rg Z d rx_m25 51 L S (rz_mk h ι, w) = rg Z d rx_m25 52 L (.int (-1) :: S) (rz_mk h ι, w) := rz_s1 fun _ => rfl
theorem g25_52 : rg Z d rx_m25 52 L (.int y :: .int x :: S) (rz_mk h ι, w) = if x = y then rg Z d rx_m25 72 L S (rz_mk h ι, w) else rg Z d rx_m25 55 L S (rz_mk h ι, w) := rz_if2 (pc := 52) (t := 72) (off := 20) (cc := .eq) (by decide) rfl
theorem g25_55 : rg Z d rx_m25 55 [l0, some (.ref a), l2, l3, l4] S (rz_mk h ι, w) = rg Z d rx_m25 56 [l0, some (.ref a), l2, l3, l4] (.ref a :: S) (rz_mk h ι, w) := rz_s1 fun _ => rfl
theorem g25_56 : rg Z d rx_m25 56 [l0, l1, some (.int x), l3, l4] S (rz_mk h ι, w) = rg Z d rx_m25 57 [l0, l1, some (.int x), l3, l4] (.int x :: S) (rz_mk h ι, w) := rz_s1 fun _ => rfl
theorem g25_57 : rg Z d rx_m25 57 [l0, l1, l2, some (.int x), l4] S (rz_mk h ι, w) = rg Z d rx_m25 58 [l0, l1, l2, some (.int x), l4] (.int x :: S) (rz_mk h ι, w) := rz_s1 fun _ => rfl
theorem g25_58 : rg Z d rx_m25 58 [l0, l1, l2, l3, some (.int x)] S (rz_mk h ι, w) = rg Z d rx_m25 60 [l0, l1, l2, l3, some (.int x)] (.int x :: S) (rz_mk h ι, w) := rz_s1 fun _ => rfl
theorem g25_60 : rg Z d rx_m25 60 L S (rz_mk h ι, w) = rg Z d rx_m25 62 L (.int 20 :: S) (rz_mk h ι, w) := rz_s1 fun _ => rfl
theorem g25_62 (c : rz_oc h a 8) : rg Z d rx_m25 62 L (v4 :: v3 :: v2 :: v1 :: .ref a :: []) (rz_mk h ι, w) = rz_k true (rz_f Z d 79 [.ref a, v1, v2, v3, v4] (rz_mk h ι, w)) (fun v σ' => rg Z d rx_m25 65 L (v.toList ++ []) σ') := rz_cv (pc := 62) (n := 4) (mi := 79) (S := v4 :: v3 :: v2 :: v1 :: .ref a :: []) (rest := []) rfl rfl (Nat.le_of_ble_eq_true rfl) (Nat.le_of_ble_eq_true rfl) c
theorem g25_65 : rg Z d rx_m25 65 L (.int x :: S) (rz_mk h ι, w) = if x = 0 then rg Z d rx_m25 72 L S (rz_mk h ι, w) else rg Z d rx_m25 68 L S (rz_mk h ι, w) := rz_if1 (pc := 65) (t := 72) (off := 7) (cc := .eq) (by decide) rfl
theorem g25_68 : rg Z d rx_m25 68 L S (rz_mk h ι, w) = rg Z d rx_m25 69 L (.int 1 :: S) (rz_mk h ι, w) := rz_s1 fun _ => rfl
theorem g25_69 : rg Z d rx_m25 69 L S (rz_mk h ι, w) = rg Z d rx_m25 73 L S (rz_mk h ι, w) := rz_s1 fun _ => rfl
theorem g25_72 : rg Z d rx_m25 72 L S (rz_mk h ι, w) = rg Z d rx_m25 73 L (.int 0 :: S) (rz_mk h ι, w) := rz_s1 fun _ => rfl
theorem g25_73 (c : narrow .boolean (.int x) = .int x) : rg Z d rx_m25 73 L [.int x] (rz_mk h ι, w) = some (.inl (some (.int x)), (rz_mk h ι, w)) := rz_reti rfl rfl c
theorem e25 : rz_f Z (d + 1) 25 [.ref t0, .ref t1] σ = rg Z d rx_m25 0 [some (.ref t0), some (.ref t1), none, none, none] [] σ := rz_f_eq rfl (Nat.le_of_ble_eq_true rfl)
theorem g26_0 : rg Z d rx_m26 0 [some (.ref a), l1, l2] S (rz_mk h ι, w) = rg Z d rx_m26 1 [some (.ref a), l1, l2] (.ref a :: S) (rz_mk h ι, w) := rz_s1 fun _ => rfl
theorem g26_1 (c : rz_fR h a 3 0) : rg Z d rx_m26 1 L (.ref a :: S) (rz_mk h ι, w) = rg Z d rx_m26 4 L (rz_rv h a 0 :: S) (rz_mk h ι, w) := rz_gR rfl (by decide) c
theorem g26_4 : rg Z d rx_m26 4 [l0, some (.ref a), l2] S (rz_mk h ι, w) = rg Z d rx_m26 5 [l0, some (.ref a), l2] (.ref a :: S) (rz_mk h ι, w) := rz_s1 fun _ => rfl
theorem g26_5 (c : rz_fI h a 8 3) : rg Z d rx_m26 5 L (.ref a :: S) (rz_mk h ι, w) = rg Z d rx_m26 8 L (.int (ι a 3) :: S) (rz_mk h ι, w) := rz_gI rfl (by decide) c
theorem g26_8 : rg Z d rx_m26 8 L S (rz_mk h ι, w) = rg Z d rx_m26 9 L (.int 1 :: S) (rz_mk h ι, w) := rz_s1 fun _ => rfl
theorem g26_9 : rg Z d rx_m26 9 L (.int y :: .int x :: S) (rz_mk h ι, w) = rg Z d rx_m26 10 L (.int (x - y) :: S) (rz_mk h ι, w) := rz_s1 fun _ => rfl
theorem g26_10 (c : rz_oc h a 9) : rg Z d rx_m26 10 L (v1 :: .ref a :: []) (rz_mk h ι, w) = rz_k true (rz_f Z d 99 [.ref a, v1] (rz_mk h ι, w)) (fun v σ' => rg Z d rx_m26 13 L (v.toList ++ []) σ') := rz_cv (pc := 10) (n := 1) (mi := 99) (S := v1 :: .ref a :: []) (rest := []) rfl rfl (Nat.le_of_ble_eq_true rfl) (Nat.le_of_ble_eq_true rfl) c
theorem g26_13 : rg Z d rx_m26 13 [l0, some (.ref b), l2] (.int x :: S) (rz_mk h ι, w) = rg Z d rx_m26 14 [l0, some (.ref b), some (.int x)] S (rz_mk h ι, w) := rz_s1 fun _ => rfl
theorem g26_14 : rg Z d rx_m26 14 [some (.ref a), l1, l2] S (rz_mk h ι, w) = rg Z d rx_m26 15 [some (.ref a), l1, l2] (.ref a :: S) (rz_mk h ι, w) := rz_s1 fun _ => rfl
theorem g26_15 : rg Z d rx_m26 15 [l0, l1, some (.int x)] S (rz_mk h ι, w) = rg Z d rx_m26 16 [l0, l1, some (.int x)] (.int x :: S) (rz_mk h ι, w) := rz_s1 fun _ => rfl
theorem g26_16 : rg Z d rx_m26 16 L S (rz_mk h ι, w) = rg Z d rx_m26 17 L (.int (-1) :: S) (rz_mk h ι, w) := rz_s1 fun _ => rfl
theorem g26_17 : rg Z d rx_m26 17 L (.int y :: .int x :: S) (rz_mk h ι, w) = if x = y then rg Z d rx_m26 20 L S (rz_mk h ι, w) else rg Z d rx_m26 27 L S (rz_mk h ι, w) := rz_if2 (pc := 17) (t := 27) (off := 10) (cc := .ne) (by decide) rfl
theorem g26_20 : rg Z d rx_m26 20 [some (.ref a), l1, l2] S (rz_mk h ι, w) = rg Z d rx_m26 21 [some (.ref a), l1, l2] (.ref a :: S) (rz_mk h ι, w) := rz_s1 fun _ => rfl
theorem g26_21 (c : rz_fI h a 3 2) : rg Z d rx_m26 21 L (.ref a :: S) (rz_mk h ι, w) = rg Z d rx_m26 24 L (.int (ι a 2) :: S) (rz_mk h ι, w) := rz_gI rfl (by decide) c
theorem g26_24 : rg Z d rx_m26 24 L S (rz_mk h ι, w) = rg Z d rx_m26 28 L S (rz_mk h ι, w) := rz_s1 fun _ => rfl
theorem g26_27 : rg Z d rx_m26 27 [l0, l1, some (.int x)] S (rz_mk h ι, w) = rg Z d rx_m26 28 [l0, l1, some (.int x)] (.int x :: S) (rz_mk h ι, w) := rz_s1 fun _ => rfl
theorem g26_28 (c : rz_fI h a 3 2) (hz : Z.2.1 ≤ a) : rg Z d rx_m26 28 L (.int x :: .ref a :: S) (rz_mk h ι, w) = rg Z d rx_m26 31 L S (rz_mk h (rz_up ι a 2 x), w) := rz_pI rfl c hz
theorem g26_31 : rg Z d rx_m26 31 [l0, l1, some (.int x)] S (rz_mk h ι, w) = rg Z d rx_m26 32 [l0, l1, some (.int x)] (.int x :: S) (rz_mk h ι, w) := rz_s1 fun _ => rfl
theorem g26_32 : rg Z d rx_m26 32 L S (rz_mk h ι, w) = rg Z d rx_m26 33 L (.int (-1) :: S) (rz_mk h ι, w) := rz_s1 fun _ => rfl
theorem g26_33 : rg Z d rx_m26 33 L (.int y :: .int x :: S) (rz_mk h ι, w) = if x = y then rg Z d rx_m26 40 L S (rz_mk h ι, w) else rg Z d rx_m26 36 L S (rz_mk h ι, w) := rz_if2 (pc := 33) (t := 40) (off := 7) (cc := .eq) (by decide) rfl
theorem g26_36 : rg Z d rx_m26 36 L S (rz_mk h ι, w) = rg Z d rx_m26 37 L (.int 1 :: S) (rz_mk h ι, w) := rz_s1 fun _ => rfl
theorem g26_37 : rg Z d rx_m26 37 L S (rz_mk h ι, w) = rg Z d rx_m26 41 L S (rz_mk h ι, w) := rz_s1 fun _ => rfl
theorem g26_40 : rg Z d rx_m26 40 L S (rz_mk h ι, w) = rg Z d rx_m26 41 L (.int 0 :: S) (rz_mk h ι, w) := rz_s1 fun _ => rfl
theorem g26_41 (c : narrow .boolean (.int x) = .int x) : rg Z d rx_m26 41 L [.int x] (rz_mk h ι, w) = some (.inl (some (.int x)), (rz_mk h ι, w)) := rz_reti rfl rfl c
theorem e26 : rz_f Z (d + 1) 26 [.ref t0, .ref t1] σ = rg Z d rx_m26 0 [some (.ref t0), some (.ref t1), none] [] σ := rz_f_eq rfl (Nat.le_of_ble_eq_true rfl)
theorem g27_0 : rg Z d rx_m27 0 [some (.ref a), l1] S (rz_mk h ι, w) = rg Z d rx_m27 1 [some (.ref a), l1] (.ref a :: S) (rz_mk h ι, w) := rz_s1 fun _ => rfl
theorem g27_1 (c : rz_fR h a 3 0) : rg Z d rx_m27 1 L (.ref a :: S) (rz_mk h ι, w) = rg Z d rx_m27 4 L (rz_rv h a 0 :: S) (rz_mk h ι, w) := rz_gR rfl (by decide) c
theorem g27_4 : rg Z d rx_m27 4 L S (rz_mk h ι, w) = rg Z d rx_m27 6 L (.int 99 :: S) (rz_mk h ι, w) := rz_s1 fun _ => rfl
theorem g27_6 (c : rz_oc h a 9) : rg Z d rx_m27 6 L (v1 :: .ref a :: []) (rz_mk h ι, w) = rz_k true (rz_f Z d 99 [.ref a, v1] (rz_mk h ι, w)) (fun v σ' => rg Z d rx_m27 9 L (v.toList ++ []) σ') := rz_cv (pc := 6) (n := 1) (mi := 99) (S := v1 :: .ref a :: []) (rest := []) rfl rfl (Nat.le_of_ble_eq_true rfl) (Nat.le_of_ble_eq_true rfl) c
theorem g27_9 : rg Z d rx_m27 9 [some (.ref b), l1] (.int x :: S) (rz_mk h ι, w) = rg Z d rx_m27 10 [some (.ref b), some (.int x)] S (rz_mk h ι, w) := rz_s1 fun _ => rfl
theorem g27_10 : rg Z d rx_m27 10 [some (.ref a), l1] S (rz_mk h ι, w) = rg Z d rx_m27 11 [some (.ref a), l1] (.ref a :: S) (rz_mk h ι, w) := rz_s1 fun _ => rfl
theorem g27_11 : rg Z d rx_m27 11 [l0, some (.int x)] S (rz_mk h ι, w) = rg Z d rx_m27 12 [l0, some (.int x)] (.int x :: S) (rz_mk h ι, w) := rz_s1 fun _ => rfl
theorem g27_12 : rg Z d rx_m27 12 L S (rz_mk h ι, w) = rg Z d rx_m27 13 L (.int (-1) :: S) (rz_mk h ι, w) := rz_s1 fun _ => rfl
theorem g27_13 : rg Z d rx_m27 13 L (.int y :: .int x :: S) (rz_mk h ι, w) = if x = y then rg Z d rx_m27 16 L S (rz_mk h ι, w) else rg Z d rx_m27 23 L S (rz_mk h ι, w) := rz_if2 (pc := 13) (t := 23) (off := 10) (cc := .ne) (by decide) rfl
theorem g27_16 : rg Z d rx_m27 16 [some (.ref a), l1] S (rz_mk h ι, w) = rg Z d rx_m27 17 [some (.ref a), l1] (.ref a :: S) (rz_mk h ι, w) := rz_s1 fun _ => rfl
theorem g27_17 (c : rz_fI h a 3 3) : rg Z d rx_m27 17 L (.ref a :: S) (rz_mk h ι, w) = rg Z d rx_m27 20 L (.int (ι a 3) :: S) (rz_mk h ι, w) := rz_gI rfl (by decide) c
theorem g27_20 : rg Z d rx_m27 20 L S (rz_mk h ι, w) = rg Z d rx_m27 24 L S (rz_mk h ι, w) := rz_s1 fun _ => rfl
theorem g27_23 : rg Z d rx_m27 23 [l0, some (.int x)] S (rz_mk h ι, w) = rg Z d rx_m27 24 [l0, some (.int x)] (.int x :: S) (rz_mk h ι, w) := rz_s1 fun _ => rfl
theorem g27_24 (c : rz_fI h a 3 3) (hz : Z.2.1 ≤ a) : rg Z d rx_m27 24 L (.int x :: .ref a :: S) (rz_mk h ι, w) = rg Z d rx_m27 27 L S (rz_mk h (rz_up ι a 3 x), w) := rz_pI rfl c hz
theorem g27_27 : rg Z d rx_m27 27 [l0, some (.int x)] S (rz_mk h ι, w) = rg Z d rx_m27 28 [l0, some (.int x)] (.int x :: S) (rz_mk h ι, w) := rz_s1 fun _ => rfl
theorem g27_28 : rg Z d rx_m27 28 L S (rz_mk h ι, w) = rg Z d rx_m27 29 L (.int (-1) :: S) (rz_mk h ι, w) := rz_s1 fun _ => rfl
theorem g27_29 : rg Z d rx_m27 29 L (.int y :: .int x :: S) (rz_mk h ι, w) = if x = y then rg Z d rx_m27 36 L S (rz_mk h ι, w) else rg Z d rx_m27 32 L S (rz_mk h ι, w) := rz_if2 (pc := 29) (t := 36) (off := 7) (cc := .eq) (by decide) rfl
theorem g27_32 : rg Z d rx_m27 32 L S (rz_mk h ι, w) = rg Z d rx_m27 33 L (.int 1 :: S) (rz_mk h ι, w) := rz_s1 fun _ => rfl
theorem g27_33 : rg Z d rx_m27 33 L S (rz_mk h ι, w) = rg Z d rx_m27 37 L S (rz_mk h ι, w) := rz_s1 fun _ => rfl
theorem g27_36 : rg Z d rx_m27 36 L S (rz_mk h ι, w) = rg Z d rx_m27 37 L (.int 0 :: S) (rz_mk h ι, w) := rz_s1 fun _ => rfl
theorem g27_37 (c : narrow .boolean (.int x) = .int x) : rg Z d rx_m27 37 L [.int x] (rz_mk h ι, w) = some (.inl (some (.int x)), (rz_mk h ι, w)) := rz_reti rfl rfl c
theorem e27 : rz_f Z (d + 1) 27 [.ref t0] σ = rg Z d rx_m27 0 [some (.ref t0), none] [] σ := rz_f_eq rfl (Nat.le_of_ble_eq_true rfl)
theorem g28_0 : rg Z d rx_m28 0 [some (.ref a)] S (rz_mk h ι, w) = rg Z d rx_m28 1 [some (.ref a)] (.ref a :: S) (rz_mk h ι, w) := rz_s1 fun _ => rfl
theorem g28_1 : rg Z d rx_m28 1 L (.ref a :: []) (rz_mk h ι, w) = rg Z d rx_m28 4 L [] (rz_mk h ι, w) := rz_oi rfl (Nat.le_of_ble_eq_true rfl)
theorem g28_4 : rg Z d rx_m28 4 [some (.ref a)] S (rz_mk h ι, w) = rg Z d rx_m28 5 [some (.ref a)] (.ref a :: S) (rz_mk h ι, w) := rz_s1 fun _ => rfl
theorem g28_5 : rg Z d rx_m28 5 L S (rz_mk h ι, w) = rg Z d rx_m28 7 L (.int 100 :: S) (rz_mk h ι, w) := rz_s1 fun _ => rfl
theorem g28_7 : rg Z d rx_m28 7 L (.int 100 :: S) (rz_mk h ι, w) = rg Z d rx_m28 9 L (.ref w.1 :: S) (rz_mk (rx_up h w.1 (.inl (0, 100, fun _ => .int 0))) (rz_z ι w.1), w.1 + 1, w.2 + 100) := rz_nwa rfl (by decide) (by decide)
theorem g28_9 (c : rz_fR h a 4 0) (hv : rz_isr v = true) (hz : Z.2.1 ≤ a) : rg Z d rx_m28 9 L (v :: .ref a :: S) (rz_mk h ι, w) = rg Z d rx_m28 12 L S (rz_mk (rz_hs h a 0 v) ι, w) := rz_pR rfl c hv hz
theorem g28_12 : rg Z d rx_m28 12 [some (.ref a)] S (rz_mk h ι, w) = rg Z d rx_m28 13 [some (.ref a)] (.ref a :: S) (rz_mk h ι, w) := rz_s1 fun _ => rfl
theorem g28_13 : rg Z d rx_m28 13 L S (rz_mk h ι, w) = rg Z d rx_m28 15 L (.int 30 :: S) (rz_mk h ι, w) := rz_s1 fun _ => rfl
theorem g28_15 : rg Z d rx_m28 15 L (.int 30 :: S) (rz_mk h ι, w) = rg Z d rx_m28 17 L (.ref w.1 :: S) (rz_mk (rx_up h w.1 (.inl (0, 30, fun _ => .int 0))) (rz_z ι w.1), w.1 + 1, w.2 + 30) := rz_nwa rfl (by decide) (by decide)
theorem g28_17 (c : rz_fR h a 4 1) (hv : rz_isr v = true) (hz : Z.2.1 ≤ a) : rg Z d rx_m28 17 L (v :: .ref a :: S) (rz_mk h ι, w) = rg Z d rx_m28 20 L S (rz_mk (rz_hs h a 1 v) ι, w) := rz_pR rfl c hv hz
theorem g28_20 : rg Z d rx_m28 20 [some (.ref a)] S (rz_mk h ι, w) = rg Z d rx_m28 21 [some (.ref a)] (.ref a :: S) (rz_mk h ι, w) := rz_s1 fun _ => rfl
theorem g28_21 : rg Z d rx_m28 21 L S (rz_mk h ι, w) = rg Z d rx_m28 24 L (.int 1000 :: S) (rz_mk h ι, w) := rz_s1 fun _ => rfl
theorem g28_24 : rg Z d rx_m28 24 L (.int 1000 :: S) (rz_mk h ι, w) = rg Z d rx_m28 26 L (.ref w.1 :: S) (rz_mk (rx_up h w.1 (.inl (0, 1000, fun _ => .int 0))) (rz_z ι w.1), w.1 + 1, w.2 + 1000) := rz_nwa rfl (by decide) (by decide)
theorem g28_26 (c : rz_fR h a 4 2) (hv : rz_isr v = true) (hz : Z.2.1 ≤ a) : rg Z d rx_m28 26 L (v :: .ref a :: S) (rz_mk h ι, w) = rg Z d rx_m28 29 L S (rz_mk (rz_hs h a 2 v) ι, w) := rz_pR rfl c hv hz
theorem g28_29 : rg Z d rx_m28 29 [some (.ref a)] S (rz_mk h ι, w) = rg Z d rx_m28 30 [some (.ref a)] (.ref a :: S) (rz_mk h ι, w) := rz_s1 fun _ => rfl
theorem g28_30 : rg Z d rx_m28 30 L S (rz_mk h ι, w) = rg Z d rx_m28 31 L (.int 0 :: S) (rz_mk h ι, w) := rz_s1 fun _ => rfl
theorem g28_31 (c : rz_fI h a 4 3) (hz : Z.2.1 ≤ a) : rg Z d rx_m28 31 L (.int x :: .ref a :: S) (rz_mk h ι, w) = rg Z d rx_m28 34 L S (rz_mk h (rz_up ι a 3 x), w) := rz_pI rfl c hz
theorem g28_34 : rg Z d rx_m28 34 [some (.ref a)] S (rz_mk h ι, w) = rg Z d rx_m28 35 [some (.ref a)] (.ref a :: S) (rz_mk h ι, w) := rz_s1 fun _ => rfl
theorem g28_35 : rg Z d rx_m28 35 L S (rz_mk h ι, w) = rg Z d rx_m28 36 L (.int (-1) :: S) (rz_mk h ι, w) := rz_s1 fun _ => rfl
theorem g28_36 (c : rz_fI h a 4 4) (hz : Z.2.1 ≤ a) : rg Z d rx_m28 36 L (.int x :: .ref a :: S) (rz_mk h ι, w) = rg Z d rx_m28 39 L S (rz_mk h (rz_up ι a 4 x), w) := rz_pI rfl c hz
theorem g28_39 : rg Z d rx_m28 39 [some (.ref a)] S (rz_mk h ι, w) = rg Z d rx_m28 40 [some (.ref a)] (.ref a :: S) (rz_mk h ι, w) := rz_s1 fun _ => rfl
theorem g28_40 : rg Z d rx_m28 40 L S (rz_mk h ι, w) = rg Z d rx_m28 41 L (.int (-1) :: S) (rz_mk h ι, w) := rz_s1 fun _ => rfl
theorem g28_41 (c : rz_fI h a 4 5) (hz : Z.2.1 ≤ a) : rg Z d rx_m28 41 L (.int x :: .ref a :: S) (rz_mk h ι, w) = rg Z d rx_m28 44 L S (rz_mk h (rz_up ι a 5 x), w) := rz_pI rfl c hz
theorem g28_44 : rg Z d rx_m28 44 L [] (rz_mk h ι, w) = some (.inl none, (rz_mk h ι, w)) := rz_r1 fun _ => rfl
theorem e28 : rz_f Z (d + 1) 28 [.ref t0] σ = rg Z d rx_m28 0 [some (.ref t0)] [] σ := rz_f_eq rfl (Nat.le_of_ble_eq_true rfl)
theorem g29_0 : rg Z d rx_m29 0 [l0, some (.int x)] S (rz_mk h ι, w) = rg Z d rx_m29 1 [l0, some (.int x)] (.int x :: S) (rz_mk h ι, w) := rz_s1 fun _ => rfl
theorem g29_1 : rg Z d rx_m29 1 L (.int x :: S) (rz_mk h ι, w) = if x = 0 then rg Z d rx_m29 28 L S (rz_mk h ι, w) else if x = 1 then rg Z d rx_m29 33 L S (rz_mk h ι, w) else rg Z d rx_m29 41 L S (rz_mk h ι, w) := by
  by_cases c0 : x = 0
  · rw [if_pos c0, c0]; exact rz_s1 fun _ => rfl
  rw [if_neg c0]
  by_cases c1 : x = 1
  · rw [if_pos c1, c1]; exact rz_s1 fun _ => rfl
  rw [if_neg c1]
  have h0 : ¬ (0 : Int) = x.toInt := fun e => c0 (Int32.toInt_inj.mp (e.symm.trans (by decide)))
  have h1 : ¬ (1 : Int) = x.toInt := fun e => c1 (Int32.toInt_inj.mp (e.symm.trans (by decide)))
  refine rz_s1 fun c => ?_
  unfold rx_at1
  show ((rx_lsw L 1 40 #[(0, 27), (1, 32)] (.int x :: S)) : rx_P).map _ = _
  have e : Op.lookupswitch.offset [(0, 27), (1, 32)] 40 x.toInt = 40 := by
    simp only [Op.lookupswitch.offset_cons, Op.lookupswitch.offset_nil, h0, h1, if_false]
  unfold rx_lsw
  dsimp only
  rw [e]
  rfl
theorem g29_28 : rg Z d rx_m29 28 [some (.int x), l1] S (rz_mk h ι, w) = rg Z d rx_m29 29 [some (.int x), l1] (.int x :: S) (rz_mk h ι, w) := rz_s1 fun _ => rfl
theorem g29_29 : rg Z d rx_m29 29 L S (rz_mk h ι, w) = rg Z d rx_m29 31 L (.int 100 :: S) (rz_mk h ι, w) := rz_s1 fun _ => rfl
theorem g29_31 : rg Z d rx_m29 31 L (.int 100 :: .int x :: S) (rz_mk h ι, w) = rg Z d rx_m29 32 L (.int (x / 100) :: S) (rz_mk h ι, w) := rz_div rfl (by decide)
theorem g29_32 : rg Z d rx_m29 32 L [.int x] (rz_mk h ι, w) = some (.inl (some (.int x)), (rz_mk h ι, w)) := rz_reti rfl rfl rfl
theorem g29_33 : rg Z d rx_m29 33 [some (.int x), l1] S (rz_mk h ι, w) = rg Z d rx_m29 34 [some (.int x), l1] (.int x :: S) (rz_mk h ι, w) := rz_s1 fun _ => rfl
theorem g29_34 : rg Z d rx_m29 34 L S (rz_mk h ι, w) = rg Z d rx_m29 36 L (.int 10 :: S) (rz_mk h ι, w) := rz_s1 fun _ => rfl
theorem g29_36 : rg Z d rx_m29 36 L (.int 10 :: .int x :: S) (rz_mk h ι, w) = rg Z d rx_m29 37 L (.int (x / 10) :: S) (rz_mk h ι, w) := rz_div rfl (by decide)
theorem g29_37 : rg Z d rx_m29 37 L S (rz_mk h ι, w) = rg Z d rx_m29 39 L (.int 10 :: S) (rz_mk h ι, w) := rz_s1 fun _ => rfl
theorem g29_39 : rg Z d rx_m29 39 L (.int 10 :: .int x :: S) (rz_mk h ι, w) = rg Z d rx_m29 40 L (.int (x - x / 10 * 10) :: S) (rz_mk h ι, w) := rz_rem rfl (by decide)
theorem g29_40 : rg Z d rx_m29 40 L [.int x] (rz_mk h ι, w) = some (.inl (some (.int x)), (rz_mk h ι, w)) := rz_reti rfl rfl rfl
theorem g29_41 : rg Z d rx_m29 41 [some (.int x), l1] S (rz_mk h ι, w) = rg Z d rx_m29 42 [some (.int x), l1] (.int x :: S) (rz_mk h ι, w) := rz_s1 fun _ => rfl
theorem g29_42 : rg Z d rx_m29 42 L S (rz_mk h ι, w) = rg Z d rx_m29 44 L (.int 10 :: S) (rz_mk h ι, w) := rz_s1 fun _ => rfl
theorem g29_44 : rg Z d rx_m29 44 L (.int 10 :: .int x :: S) (rz_mk h ι, w) = rg Z d rx_m29 45 L (.int (x - x / 10 * 10) :: S) (rz_mk h ι, w) := rz_rem rfl (by decide)
theorem g29_45 : rg Z d rx_m29 45 L [.int x] (rz_mk h ι, w) = some (.inl (some (.int x)), (rz_mk h ι, w)) := rz_reti rfl rfl rfl
theorem e29 : rz_f Z (d + 1) 29 [.int s0, .int s1] σ = rg Z d rx_m29 0 [some (.int s0), some (.int s1)] [] σ := rz_f_eq rfl (Nat.le_of_ble_eq_true rfl)
theorem g30_0 : rg Z d rx_m30 0 [l0, some (.ref a), l2, l3, l4, l5, l6, l7, l8, l9] S (rz_mk h ι, w) = rg Z d rx_m30 1 [l0, some (.ref a), l2, l3, l4, l5, l6, l7, l8, l9] (.ref a :: S) (rz_mk h ι, w) := rz_s1 fun _ => rfl
theorem g30_1 (c : rz_fI h a 8 5) : rg Z d rx_m30 1 L (.ref a :: S) (rz_mk h ι, w) = rg Z d rx_m30 4 L (.int (ι a 5) :: S) (rz_mk h ι, w) := rz_gI rfl (by decide) c
theorem g30_4 : rg Z d rx_m30 4 L S (rz_mk h ι, w) = rg Z d rx_m30 5 L (.int (-1) :: S) (rz_mk h ι, w) := rz_s1 fun _ => rfl
theorem g30_5 : rg Z d rx_m30 5 L (.int y :: .int x :: S) (rz_mk h ι, w) = if x = y then rg Z d rx_m30 24 L S (rz_mk h ι, w) else rg Z d rx_m30 8 L S (rz_mk h ι, w) := rz_if2 (pc := 5) (t := 24) (off := 19) (cc := .eq) (by decide) rfl
theorem g30_8 : rg Z d rx_m30 8 [l0, some (.ref a), l2, l3, l4, l5, l6, l7, l8, l9] S (rz_mk h ι, w) = rg Z d rx_m30 9 [l0, some (.ref a), l2, l3, l4, l5, l6, l7, l8, l9] (.ref a :: S) (rz_mk h ι, w) := rz_s1 fun _ => rfl
theorem g30_9 (c : rz_fI h a 8 5) : rg Z d rx_m30 9 L (.ref a :: S) (rz_mk h ι, w) = rg Z d rx_m30 12 L (.int (ι a 5) :: S) (rz_mk h ι, w) := rz_gI rfl (by decide) c
theorem g30_12 : rg Z d rx_m30 12 [l0, l1, l2, some (.int x), l4, l5, l6, l7, l8, l9] S (rz_mk h ι, w) = rg Z d rx_m30 13 [l0, l1, l2, some (.int x), l4, l5, l6, l7, l8, l9] (.int x :: S) (rz_mk h ι, w) := rz_s1 fun _ => rfl
theorem g30_13 : rg Z d rx_m30 13 L (.int y :: .int x :: S) (rz_mk h ι, w) = if x = y then rg Z d rx_m30 24 L S (rz_mk h ι, w) else rg Z d rx_m30 16 L S (rz_mk h ι, w) := rz_if2 (pc := 13) (t := 24) (off := 11) (cc := .eq) (by decide) rfl
theorem g30_16 : rg Z d rx_m30 16 [l0, some (.ref a), l2, l3, l4, l5, l6, l7, l8, l9] S (rz_mk h ι, w) = rg Z d rx_m30 17 [l0, some (.ref a), l2, l3, l4, l5, l6, l7, l8, l9] (.ref a :: S) (rz_mk h ι, w) := rz_s1 fun _ => rfl
theorem g30_17 : rg Z d rx_m30 17 [l0, l1, l2, some (.int x), l4, l5, l6, l7, l8, l9] S (rz_mk h ι, w) = rg Z d rx_m30 18 [l0, l1, l2, some (.int x), l4, l5, l6, l7, l8, l9] (.int x :: S) (rz_mk h ι, w) := rz_s1 fun _ => rfl
theorem g30_18 (c : rz_oc h a 8) : rg Z d rx_m30 18 L (v1 :: .ref a :: []) (rz_mk h ι, w) = rz_k true (rz_f Z d 68 [.ref a, v1] (rz_mk h ι, w)) (fun v σ' => rg Z d rx_m30 21 L (v.toList ++ []) σ') := rz_cv (pc := 18) (n := 1) (mi := 68) (S := v1 :: .ref a :: []) (rest := []) rfl rfl (Nat.le_of_ble_eq_true rfl) (Nat.le_of_ble_eq_true rfl) c
theorem g30_21 : rg Z d rx_m30 21 L (.int x :: S) (rz_mk h ι, w) = if x = 0 then rg Z d rx_m30 24 L S (rz_mk h ι, w) else rg Z d rx_m30 26 L S (rz_mk h ι, w) := rz_if1 (pc := 21) (t := 26) (off := 5) (cc := .ne) (by decide) rfl
theorem g30_24 : rg Z d rx_m30 24 L S (rz_mk h ι, w) = rg Z d rx_m30 25 L (.int (-1) :: S) (rz_mk h ι, w) := rz_s1 fun _ => rfl
theorem g30_25 : rg Z d rx_m30 25 L [.int x] (rz_mk h ι, w) = some (.inl (some (.int x)), (rz_mk h ι, w)) := rz_reti rfl rfl rfl
theorem g30_26 : rg Z d rx_m30 26 [some (.ref a), l1, l2, l3, l4, l5, l6, l7, l8, l9] S (rz_mk h ι, w) = rg Z d rx_m30 27 [some (.ref a), l1, l2, l3, l4, l5, l6, l7, l8, l9] (.ref a :: S) (rz_mk h ι, w) := rz_s1 fun _ => rfl
theorem g30_27 : rg Z d rx_m30 27 [l0, some (.ref a), l2, l3, l4, l5, l6, l7, l8, l9] S (rz_mk h ι, w) = rg Z d rx_m30 28 [l0, some (.ref a), l2, l3, l4, l5, l6, l7, l8, l9] (.ref a :: S) (rz_mk h ι, w) := rz_s1 fun _ => rfl
theorem g30_28 : rg Z d rx_m30 28 [l0, l1, some (.ref a), l3, l4, l5, l6, l7, l8, l9] S (rz_mk h ι, w) = rg Z d rx_m30 29 [l0, l1, some (.ref a), l3, l4, l5, l6, l7, l8, l9] (.ref a :: S) (rz_mk h ι, w) := rz_s1 fun _ => rfl
theorem g30_29 : rg Z d rx_m30 29 [l0, l1, l2, some (.int x), l4, l5, l6, l7, l8, l9] S (rz_mk h ι, w) = rg Z d rx_m30 30 [l0, l1, l2, some (.int x), l4, l5, l6, l7, l8, l9] (.int x :: S) (rz_mk h ι, w) := rz_s1 fun _ => rfl
theorem g30_30 (c : rz_oc h a 4) : rg Z d rx_m30 30 L (v3 :: v2 :: v1 :: .ref a :: []) (rz_mk h ι, w) = rz_k true (rz_f Z d 31 [.ref a, v1, v2, v3] (rz_mk h ι, w)) (fun v σ' => rg Z d rx_m30 33 L (v.toList ++ []) σ') := rz_cv (pc := 30) (n := 3) (mi := 31) (S := v3 :: v2 :: v1 :: .ref a :: []) (rest := []) rfl rfl (Nat.le_of_ble_eq_true rfl) (Nat.le_of_ble_eq_true rfl) c
theorem g30_33 : rg Z d rx_m30 33 [l0, l1, l2, l3, some (.int z), l5, l6, l7, l8, l9] (.int x :: S) (rz_mk h ι, w) = rg Z d rx_m30 35 [l0, l1, l2, l3, some (.int z), some (.int x), l6, l7, l8, l9] S (rz_mk h ι, w) := rz_s1 fun _ => rfl
theorem g30_35 : rg Z d rx_m30 35 [some (.ref a), l1, l2, l3, l4, l5, l6, l7, l8, l9] S (rz_mk h ι, w) = rg Z d rx_m30 36 [some (.ref a), l1, l2, l3, l4, l5, l6, l7, l8, l9] (.ref a :: S) (rz_mk h ι, w) := rz_s1 fun _ => rfl
theorem g30_36 : rg Z d rx_m30 36 [l0, some (.ref a), l2, l3, l4, l5, l6, l7, l8, l9] S (rz_mk h ι, w) = rg Z d rx_m30 37 [l0, some (.ref a), l2, l3, l4, l5, l6, l7, l8, l9] (.ref a :: S) (rz_mk h ι, w) := rz_s1 fun _ => rfl
theorem g30_37 : rg Z d rx_m30 37 [l0, some (.ref a), l2, l3, l4, l5, l6, l7, l8, l9] S (rz_mk h ι, w) = rg Z d rx_m30 38 [l0, some (.ref a), l2, l3, l4, l5, l6, l7, l8, l9] (.ref a :: S) (rz_mk h ι, w) := rz_s1 fun _ => rfl
theorem g30_38 (c : rz_fI h a 8 5) : rg Z d rx_m30 38 L (.ref a :: S) (rz_mk h ι, w) = rg Z d rx_m30 41 L (.int (ι a 5) :: S) (rz_mk h ι, w) := rz_gI rfl (by decide) c
theorem g30_41 (c : rz_oc h a 4) : rg Z d rx_m30 41 L (v2 :: v1 :: .ref a :: []) (rz_mk h ι, w) = rz_k true (rz_f Z d 34 [.ref a, v1, v2] (rz_mk h ι, w)) (fun v σ' => rg Z d rx_m30 44 L (v.toList ++ []) σ') := rz_cv (pc := 41) (n := 2) (mi := 34) (S := v2 :: v1 :: .ref a :: []) (rest := []) rfl rfl (Nat.le_of_ble_eq_true rfl) (Nat.le_of_ble_eq_true rfl) c
theorem g30_44 : rg Z d rx_m30 44 L S (rz_mk h ι, w) = rg Z d rx_m30 46 L (.int 30 :: S) (rz_mk h ι, w) := rz_s1 fun _ => rfl
theorem g30_46 : rg Z d rx_m30 46 [l0, l1, l2, l3, l4, some (.int z), l6, l7, l8, l9] (.int x :: S) (rz_mk h ι, w) = rg Z d rx_m30 48 [l0, l1, l2, l3, l4, some (.int z), some (.int x), l7, l8, l9] S (rz_mk h ι, w) := rz_s1 fun _ => rfl
theorem g30_48 : rg Z d rx_m30 48 L S (rz_mk h ι, w) = rg Z d rx_m30 49 L (.int (-1) :: S) (rz_mk h ι, w) := rz_s1 fun _ => rfl
theorem g30_49 : rg Z d rx_m30 49 [l0, l1, l2, l3, l4, l5, some (.int z), l7, l8, l9] (.int x :: S) (rz_mk h ι, w) = rg Z d rx_m30 51 [l0, l1, l2, l3, l4, l5, some (.int z), some (.int x), l8, l9] S (rz_mk h ι, w) := rz_s1 fun _ => rfl
theorem g30_51 : rg Z d rx_m30 51 L S (rz_mk h ι, w) = rg Z d rx_m30 52 L (.int 0 :: S) (rz_mk h ι, w) := rz_s1 fun _ => rfl
theorem g30_52 : rg Z d rx_m30 52 [l0, l1, l2, l3, l4, l5, l6, some (.int z), l8, l9] (.int x :: S) (rz_mk h ι, w) = rg Z d rx_m30 54 [l0, l1, l2, l3, l4, l5, l6, some (.int z), some (.int x), l9] S (rz_mk h ι, w) := rz_s1 fun _ => rfl
theorem g30_54 : rg Z d rx_m30 54 [l0, l1, l2, l3, l4, l5, l6, l7, some (.int x), l9] S (rz_mk h ι, w) = rg Z d rx_m30 56 [l0, l1, l2, l3, l4, l5, l6, l7, some (.int x), l9] (.int x :: S) (rz_mk h ι, w) := rz_s1 fun _ => rfl
theorem g30_56 : rg Z d rx_m30 56 L S (rz_mk h ι, w) = rg Z d rx_m30 59 L (.int 1000 :: S) (rz_mk h ι, w) := rz_s1 fun _ => rfl
theorem g30_59 : rg Z d rx_m30 59 L (.int y :: .int x :: S) (rz_mk h ι, w) = if x < y then rg Z d rx_m30 62 L S (rz_mk h ι, w) else rg Z d rx_m30 107 L S (rz_mk h ι, w) := rz_if2 (pc := 59) (t := 107) (off := 48) (cc := .ge) (by decide) rfl
theorem g30_62 : rg Z d rx_m30 62 [some (.ref a), l1, l2, l3, l4, l5, l6, l7, l8, l9] S (rz_mk h ι, w) = rg Z d rx_m30 63 [some (.ref a), l1, l2, l3, l4, l5, l6, l7, l8, l9] (.ref a :: S) (rz_mk h ι, w) := rz_s1 fun _ => rfl
theorem g30_63 : rg Z d rx_m30 63 [l0, some (.ref a), l2, l3, l4, l5, l6, l7, l8, l9] S (rz_mk h ι, w) = rg Z d rx_m30 64 [l0, some (.ref a), l2, l3, l4, l5, l6, l7, l8, l9] (.ref a :: S) (rz_mk h ι, w) := rz_s1 fun _ => rfl
theorem g30_64 : rg Z d rx_m30 64 [l0, l1, l2, some (.int x), l4, l5, l6, l7, l8, l9] S (rz_mk h ι, w) = rg Z d rx_m30 65 [l0, l1, l2, some (.int x), l4, l5, l6, l7, l8, l9] (.int x :: S) (rz_mk h ι, w) := rz_s1 fun _ => rfl
theorem g30_65 : rg Z d rx_m30 65 [l0, l1, l2, l3, l4, l5, l6, l7, some (.int x), l9] S (rz_mk h ι, w) = rg Z d rx_m30 67 [l0, l1, l2, l3, l4, l5, l6, l7, some (.int x), l9] (.int x :: S) (rz_mk h ι, w) := rz_s1 fun _ => rfl
theorem g30_67 (c : rz_oc h a 4) : rg Z d rx_m30 67 L (v3 :: v2 :: v1 :: .ref a :: []) (rz_mk h ι, w) = rz_k true (rz_f Z d 32 [.ref a, v1, v2, v3] (rz_mk h ι, w)) (fun v σ' => rg Z d rx_m30 70 L (v.toList ++ []) σ') := rz_cv (pc := 67) (n := 3) (mi := 32) (S := v3 :: v2 :: v1 :: .ref a :: []) (rest := []) rfl rfl (Nat.le_of_ble_eq_true rfl) (Nat.le_of_ble_eq_true rfl) c
theorem g30_70 : rg Z d rx_m30 70 [l0, l1, l2, l3, l4, l5, l6, l7, some (.int z), l9] (.int x :: S) (rz_mk h ι, w) = rg Z d rx_m30 72 [l0, l1, l2, l3, l4, l5, l6, l7, some (.int z), some (.int x)] S (rz_mk h ι, w) := rz_s1 fun _ => rfl
theorem g30_72 : rg Z d rx_m30 72 [l0, l1, l2, l3, l4, l5, l6, l7, l8, some (.int x)] S (rz_mk h ι, w) = rg Z d rx_m30 74 [l0, l1, l2, l3, l4, l5, l6, l7, l8, some (.int x)] (.int x :: S) (rz_mk h ι, w) := rz_s1 fun _ => rfl
theorem g30_74 : rg Z d rx_m30 74 [l0, l1, l2, l3, l4, l5, some (.int x), l7, l8, l9] S (rz_mk h ι, w) = rg Z d rx_m30 76 [l0, l1, l2, l3, l4, l5, some (.int x), l7, l8, l9] (.int x :: S) (rz_mk h ι, w) := rz_s1 fun _ => rfl
theorem g30_76 : rg Z d rx_m30 76 L (.int y :: .int x :: S) (rz_mk h ι, w) = if x < y then rg Z d rx_m30 79 L S (rz_mk h ι, w) else rg Z d rx_m30 101 L S (rz_mk h ι, w) := rz_if2 (pc := 76) (t := 101) (off := 25) (cc := .ge) (by decide) rfl
theorem g30_79 : rg Z d rx_m30 79 [some (.ref a), l1, l2, l3, l4, l5, l6, l7, l8, l9] S (rz_mk h ι, w) = rg Z d rx_m30 80 [some (.ref a), l1, l2, l3, l4, l5, l6, l7, l8, l9] (.ref a :: S) (rz_mk h ι, w) := rz_s1 fun _ => rfl
theorem g30_80 : rg Z d rx_m30 80 [l0, some (.ref a), l2, l3, l4, l5, l6, l7, l8, l9] S (rz_mk h ι, w) = rg Z d rx_m30 81 [l0, some (.ref a), l2, l3, l4, l5, l6, l7, l8, l9] (.ref a :: S) (rz_mk h ι, w) := rz_s1 fun _ => rfl
theorem g30_81 : rg Z d rx_m30 81 [l0, l1, some (.ref a), l3, l4, l5, l6, l7, l8, l9] S (rz_mk h ι, w) = rg Z d rx_m30 82 [l0, l1, some (.ref a), l3, l4, l5, l6, l7, l8, l9] (.ref a :: S) (rz_mk h ι, w) := rz_s1 fun _ => rfl
theorem g30_82 : rg Z d rx_m30 82 [l0, l1, l2, some (.int x), l4, l5, l6, l7, l8, l9] S (rz_mk h ι, w) = rg Z d rx_m30 83 [l0, l1, l2, some (.int x), l4, l5, l6, l7, l8, l9] (.int x :: S) (rz_mk h ι, w) := rz_s1 fun _ => rfl
theorem g30_83 : rg Z d rx_m30 83 [l0, l1, l2, l3, l4, l5, l6, l7, some (.int x), l9] S (rz_mk h ι, w) = rg Z d rx_m30 85 [l0, l1, l2, l3, l4, l5, l6, l7, some (.int x), l9] (.int x :: S) (rz_mk h ι, w) := rz_s1 fun _ => rfl
theorem g30_85 (c : rz_oc h a 4) : rg Z d rx_m30 85 L (v4 :: v3 :: v2 :: v1 :: .ref a :: []) (rz_mk h ι, w) = rz_k true (rz_f Z d 33 [.ref a, v1, v2, v3, v4] (rz_mk h ι, w)) (fun v σ' => rg Z d rx_m30 88 L (v.toList ++ []) σ') := rz_cv (pc := 85) (n := 4) (mi := 33) (S := v4 :: v3 :: v2 :: v1 :: .ref a :: []) (rest := []) rfl rfl (Nat.le_of_ble_eq_true rfl) (Nat.le_of_ble_eq_true rfl) c
theorem g30_88 : rg Z d rx_m30 88 [l0, l1, l2, l3, l4, some (.int x), l6, l7, l8, l9] S (rz_mk h ι, w) = rg Z d rx_m30 90 [l0, l1, l2, l3, l4, some (.int x), l6, l7, l8, l9] (.int x :: S) (rz_mk h ι, w) := rz_s1 fun _ => rfl
theorem g30_90 : rg Z d rx_m30 90 L (.int y :: .int x :: S) (rz_mk h ι, w) = if x < y then rg Z d rx_m30 101 L S (rz_mk h ι, w) else rg Z d rx_m30 93 L S (rz_mk h ι, w) := rz_if2 (pc := 90) (t := 101) (off := 11) (cc := .lt) (by decide) rfl
theorem g30_93 : rg Z d rx_m30 93 [l0, l1, l2, l3, l4, l5, l6, l7, l8, some (.int x)] S (rz_mk h ι, w) = rg Z d rx_m30 95 [l0, l1, l2, l3, l4, l5, l6, l7, l8, some (.int x)] (.int x :: S) (rz_mk h ι, w) := rz_s1 fun _ => rfl
theorem g30_95 : rg Z d rx_m30 95 [l0, l1, l2, l3, l4, some (.int z), l6, l7, l8, l9] (.int x :: S) (rz_mk h ι, w) = rg Z d rx_m30 97 [l0, l1, l2, l3, l4, some (.int z), some (.int x), l7, l8, l9] S (rz_mk h ι, w) := rz_s1 fun _ => rfl
theorem g30_97 : rg Z d rx_m30 97 [l0, l1, l2, l3, l4, l5, l6, l7, some (.int x), l9] S (rz_mk h ι, w) = rg Z d rx_m30 99 [l0, l1, l2, l3, l4, l5, l6, l7, some (.int x), l9] (.int x :: S) (rz_mk h ι, w) := rz_s1 fun _ => rfl
theorem g30_99 : rg Z d rx_m30 99 [l0, l1, l2, l3, l4, l5, some (.int z), l7, l8, l9] (.int x :: S) (rz_mk h ι, w) = rg Z d rx_m30 101 [l0, l1, l2, l3, l4, l5, some (.int z), some (.int x), l8, l9] S (rz_mk h ι, w) := rz_s1 fun _ => rfl
theorem g30_101 : rg Z d rx_m30 101 [l0, l1, l2, l3, l4, l5, l6, some (.int z), some (.int x), l9] S (rz_mk h ι, w) = rg Z d rx_m30 104 [l0, l1, l2, l3, l4, l5, l6, some (.int z), some (.int (x + 1)), l9] S (rz_mk h ι, w) := rz_s1 fun _ => rfl
theorem g30_104 : rg Z d rx_m30 104 L S (rz_mk h ι, w) = rg Z d rx_m30 54 L S (rz_mk h ι, w) := rz_s1 fun _ => rfl
theorem g30_107 : rg Z d rx_m30 107 [l0, l1, l2, l3, some (.int x), l5, l6, l7, l8, l9] S (rz_mk h ι, w) = rg Z d rx_m30 109 [l0, l1, l2, l3, some (.int x), l5, l6, l7, l8, l9] (.int x :: S) (rz_mk h ι, w) := rz_s1 fun _ => rfl
theorem g30_109 : rg Z d rx_m30 109 L S (rz_mk h ι, w) = rg Z d rx_m30 110 L (.int 1 :: S) (rz_mk h ι, w) := rz_s1 fun _ => rfl
theorem g30_110 : rg Z d rx_m30 110 L (.int y :: .int x :: S) (rz_mk h ι, w) = if x = y then rg Z d rx_m30 119 L S (rz_mk h ι, w) else rg Z d rx_m30 113 L S (rz_mk h ι, w) := rz_if2 (pc := 110) (t := 119) (off := 9) (cc := .eq) (by decide) rfl
theorem g30_113 : rg Z d rx_m30 113 [l0, l1, l2, l3, l4, l5, l6, some (.int x), l8, l9] S (rz_mk h ι, w) = rg Z d rx_m30 115 [l0, l1, l2, l3, l4, l5, l6, some (.int x), l8, l9] (.int x :: S) (rz_mk h ι, w) := rz_s1 fun _ => rfl
theorem g30_115 : rg Z d rx_m30 115 L S (rz_mk h ι, w) = rg Z d rx_m30 116 L (.int (-1) :: S) (rz_mk h ι, w) := rz_s1 fun _ => rfl
theorem g30_116 : rg Z d rx_m30 116 L (.int y :: .int x :: S) (rz_mk h ι, w) = if x = y then rg Z d rx_m30 119 L S (rz_mk h ι, w) else rg Z d rx_m30 124 L S (rz_mk h ι, w) := rz_if2 (pc := 116) (t := 124) (off := 8) (cc := .ne) (by decide) rfl
theorem g30_119 : rg Z d rx_m30 119 [l0, l1, l2, l3, l4, l5, l6, some (.int x), l8, l9] S (rz_mk h ι, w) = rg Z d rx_m30 121 [l0, l1, l2, l3, l4, l5, l6, some (.int x), l8, l9] (.int x :: S) (rz_mk h ι, w) := rz_s1 fun _ => rfl
theorem g30_121 : rg Z d rx_m30 121 L S (rz_mk h ι, w) = rg Z d rx_m30 126 L S (rz_mk h ι, w) := rz_s1 fun _ => rfl
theorem g30_124 : rg Z d rx_m30 124 [l0, l1, l2, l3, l4, l5, some (.int x), l7, l8, l9] S (rz_mk h ι, w) = rg Z d rx_m30 126 [l0, l1, l2, l3, l4, l5, some (.int x), l7, l8, l9] (.int x :: S) (rz_mk h ι, w) := rz_s1 fun _ => rfl
theorem g30_126 : rg Z d rx_m30 126 L [.int x] (rz_mk h ι, w) = some (.inl (some (.int x)), (rz_mk h ι, w)) := rz_reti rfl rfl rfl
theorem e30 : rz_f Z (d + 1) 30 [.ref t0, .ref t1, .ref t2, .int s3, .int s4] σ = rg Z d rx_m30 0 [some (.ref t0), some (.ref t1), some (.ref t2), some (.int s3), some (.int s4), none, none, none, none, none] [] σ := rz_f_eq rfl (Nat.le_of_ble_eq_true rfl)
theorem g31_0 : rg Z d rx_m31 0 L S (rz_mk h ι, w) = rg Z d rx_m31 1 L (.int 0 :: S) (rz_mk h ι, w) := rz_s1 fun _ => rfl
theorem g31_1 : rg Z d rx_m31 1 [l0, l1, l2, some (.int z), l4, l5, l6] (.int x :: S) (rz_mk h ι, w) = rg Z d rx_m31 3 [l0, l1, l2, some (.int z), some (.int x), l5, l6] S (rz_mk h ι, w) := rz_s1 fun _ => rfl
theorem g31_3 : rg Z d rx_m31 3 L S (rz_mk h ι, w) = rg Z d rx_m31 4 L (.int 0 :: S) (rz_mk h ι, w) := rz_s1 fun _ => rfl
theorem g31_4 : rg Z d rx_m31 4 [l0, l1, l2, l3, some (.int z), l5, l6] (.int x :: S) (rz_mk h ι, w) = rg Z d rx_m31 6 [l0, l1, l2, l3, some (.int z), some (.int x), l6] S (rz_mk h ι, w) := rz_s1 fun _ => rfl
theorem g31_6 : rg Z d rx_m31 6 [l0, l1, l2, l3, l4, some (.int x), l6] S (rz_mk h ι, w) = rg Z d rx_m31 8 [l0, l1, l2, l3, l4, some (.int x), l6] (.int x :: S) (rz_mk h ι, w) := rz_s1 fun _ => rfl
theorem g31_8 : rg Z d rx_m31 8 [l0, some (.ref a), l2, l3, l4, l5, l6] S (rz_mk h ι, w) = rg Z d rx_m31 9 [l0, some (.ref a), l2, l3, l4, l5, l6] (.ref a :: S) (rz_mk h ι, w) := rz_s1 fun _ => rfl
theorem g31_9 (c : rz_fI h a 8 3) : rg Z d rx_m31 9 L (.ref a :: S) (rz_mk h ι, w) = rg Z d rx_m31 12 L (.int (ι a 3) :: S) (rz_mk h ι, w) := rz_gI rfl (by decide) c
theorem g31_12 : rg Z d rx_m31 12 L (.int y :: .int x :: S) (rz_mk h ι, w) = if x < y then rg Z d rx_m31 15 L S (rz_mk h ι, w) else rg Z d rx_m31 76 L S (rz_mk h ι, w) := rz_if2 (pc := 12) (t := 76) (off := 64) (cc := .ge) (by decide) rfl
theorem g31_15 : rg Z d rx_m31 15 [l0, some (.ref a), l2, l3, l4, l5, l6] S (rz_mk h ι, w) = rg Z d rx_m31 16 [l0, some (.ref a), l2, l3, l4, l5, l6] (.ref a :: S) (rz_mk h ι, w) := rz_s1 fun _ => rfl
theorem g31_16 : rg Z d rx_m31 16 [l0, l1, l2, l3, l4, some (.int x), l6] S (rz_mk h ι, w) = rg Z d rx_m31 18 [l0, l1, l2, l3, l4, some (.int x), l6] (.int x :: S) (rz_mk h ι, w) := rz_s1 fun _ => rfl
theorem g31_18 (c : rz_oc h a 8) : rg Z d rx_m31 18 L (v1 :: .ref a :: []) (rz_mk h ι, w) = rz_k true (rz_f Z d 68 [.ref a, v1] (rz_mk h ι, w)) (fun v σ' => rg Z d rx_m31 21 L (v.toList ++ []) σ') := rz_cv (pc := 18) (n := 1) (mi := 68) (S := v1 :: .ref a :: []) (rest := []) rfl rfl (Nat.le_of_ble_eq_true rfl) (Nat.le_of_ble_eq_true rfl) c
theorem g31_21 : rg Z d rx_m31 21 L (.int x :: S) (rz_mk h ι, w) = if x = 0 then rg Z d rx_m31 70 L S (rz_mk h ι, w) else rg Z d rx_m31 24 L S (rz_mk h ι, w) := rz_if1 (pc := 21) (t := 70) (off := 49) (cc := .eq) (by decide) rfl
theorem g31_24 : rg Z d rx_m31 24 [l0, l1, l2, l3, l4, some (.int x), l6] S (rz_mk h ι, w) = rg Z d rx_m31 26 [l0, l1, l2, l3, l4, some (.int x), l6] (.int x :: S) (rz_mk h ι, w) := rz_s1 fun _ => rfl
theorem g31_26 : rg Z d rx_m31 26 [l0, l1, l2, some (.int x), l4, l5, l6] S (rz_mk h ι, w) = rg Z d rx_m31 27 [l0, l1, l2, some (.int x), l4, l5, l6] (.int x :: S) (rz_mk h ι, w) := rz_s1 fun _ => rfl
theorem g31_27 : rg Z d rx_m31 27 L (.int y :: .int x :: S) (rz_mk h ι, w) = if x = y then rg Z d rx_m31 70 L S (rz_mk h ι, w) else rg Z d rx_m31 30 L S (rz_mk h ι, w) := rz_if2 (pc := 27) (t := 70) (off := 43) (cc := .eq) (by decide) rfl
theorem g31_30 : rg Z d rx_m31 30 [l0, l1, l2, l3, l4, some (.int x), l6] S (rz_mk h ι, w) = rg Z d rx_m31 32 [l0, l1, l2, l3, l4, some (.int x), l6] (.int x :: S) (rz_mk h ι, w) := rz_s1 fun _ => rfl
theorem g31_32 : rg Z d rx_m31 32 [l0, some (.ref a), l2, l3, l4, l5, l6] S (rz_mk h ι, w) = rg Z d rx_m31 33 [l0, some (.ref a), l2, l3, l4, l5, l6] (.ref a :: S) (rz_mk h ι, w) := rz_s1 fun _ => rfl
theorem g31_33 (c : rz_fI h a 8 5) : rg Z d rx_m31 33 L (.ref a :: S) (rz_mk h ι, w) = rg Z d rx_m31 36 L (.int (ι a 5) :: S) (rz_mk h ι, w) := rz_gI rfl (by decide) c
theorem g31_36 : rg Z d rx_m31 36 L (.int y :: .int x :: S) (rz_mk h ι, w) = if x = y then rg Z d rx_m31 70 L S (rz_mk h ι, w) else rg Z d rx_m31 39 L S (rz_mk h ι, w) := rz_if2 (pc := 36) (t := 70) (off := 34) (cc := .eq) (by decide) rfl
theorem g31_39 : rg Z d rx_m31 39 [l0, l1, some (.ref a), l3, l4, l5, l6] S (rz_mk h ι, w) = rg Z d rx_m31 40 [l0, l1, some (.ref a), l3, l4, l5, l6] (.ref a :: S) (rz_mk h ι, w) := rz_s1 fun _ => rfl
theorem g31_40 : rg Z d rx_m31 40 [l0, some (.ref a), l2, l3, l4, l5, l6] S (rz_mk h ι, w) = rg Z d rx_m31 41 [l0, some (.ref a), l2, l3, l4, l5, l6] (.ref a :: S) (rz_mk h ι, w) := rz_s1 fun _ => rfl
theorem g31_41 : rg Z d rx_m31 41 [l0, l1, l2, l3, l4, some (.int x), l6] S (rz_mk h ι, w) = rg Z d rx_m31 43 [l0, l1, l2, l3, l4, some (.int x), l6] (.int x :: S) (rz_mk h ι, w) := rz_s1 fun _ => rfl
theorem g31_43 (c : rz_oc h a 5) : rg Z d rx_m31 43 L (v2 :: v1 :: .ref a :: []) (rz_mk h ι, w) = rz_k true (rz_f Z d 49 [.ref a, v1, v2] (rz_mk h ι, w)) (fun v σ' => rg Z d rx_m31 46 L (v.toList ++ []) σ') := rz_cv (pc := 43) (n := 2) (mi := 49) (S := v2 :: v1 :: .ref a :: []) (rest := []) rfl rfl (Nat.le_of_ble_eq_true rfl) (Nat.le_of_ble_eq_true rfl) c
theorem g31_46 : rg Z d rx_m31 46 [l0, l1, l2, l3, l4, some (.int z), l6] (.int x :: S) (rz_mk h ι, w) = rg Z d rx_m31 48 [l0, l1, l2, l3, l4, some (.int z), some (.int x)] S (rz_mk h ι, w) := rz_s1 fun _ => rfl
theorem g31_48 : rg Z d rx_m31 48 [l0, l1, l2, l3, some (.int x), l5, l6] S (rz_mk h ι, w) = rg Z d rx_m31 50 [l0, l1, l2, l3, some (.int x), l5, l6] (.int x :: S) (rz_mk h ι, w) := rz_s1 fun _ => rfl
theorem g31_50 : rg Z d rx_m31 50 [l0, l1, l2, l3, l4, some (.int x), l6] S (rz_mk h ι, w) = rg Z d rx_m31 52 [l0, l1, l2, l3, l4, some (.int x), l6] (.int x :: S) (rz_mk h ι, w) := rz_s1 fun _ => rfl
theorem g31_52 : rg Z d rx_m31 52 [l0, l1, l2, some (.int x), l4, l5, l6] S (rz_mk h ι, w) = rg Z d rx_m31 53 [l0, l1, l2, some (.int x), l4, l5, l6] (.int x :: S) (rz_mk h ι, w) := rz_s1 fun _ => rfl
theorem g31_53 : rg Z d rx_m31 53 L (.int y :: .int x :: S) (rz_mk h ι, w) = if x < y then rg Z d rx_m31 56 L S (rz_mk h ι, w) else rg Z d rx_m31 63 L S (rz_mk h ι, w) := rz_if2 (pc := 53) (t := 63) (off := 10) (cc := .ge) (by decide) rfl
theorem g31_56 : rg Z d rx_m31 56 [l0, l1, l2, l3, l4, l5, some (.int x)] S (rz_mk h ι, w) = rg Z d rx_m31 58 [l0, l1, l2, l3, l4, l5, some (.int x)] (.int x :: S) (rz_mk h ι, w) := rz_s1 fun _ => rfl
theorem g31_58 : rg Z d rx_m31 58 L S (rz_mk h ι, w) = rg Z d rx_m31 59 L (.int 1 :: S) (rz_mk h ι, w) := rz_s1 fun _ => rfl
theorem g31_59 : rg Z d rx_m31 59 L (.int y :: .int x :: S) (rz_mk h ι, w) = rg Z d rx_m31 60 L (.int (x + y) :: S) (rz_mk h ι, w) := rz_s1 fun _ => rfl
theorem g31_60 : rg Z d rx_m31 60 L S (rz_mk h ι, w) = rg Z d rx_m31 65 L S (rz_mk h ι, w) := rz_s1 fun _ => rfl
theorem g31_63 : rg Z d rx_m31 63 [l0, l1, l2, l3, l4, l5, some (.int x)] S (rz_mk h ι, w) = rg Z d rx_m31 65 [l0, l1, l2, l3, l4, l5, some (.int x)] (.int x :: S) (rz_mk h ι, w) := rz_s1 fun _ => rfl
theorem g31_65 : rg Z d rx_m31 65 L (.int y :: .int x :: []) (rz_mk h ι, w) = rg Z d rx_m31 68 L (.int (if x < y then y else x) :: []) (rz_mk h ι, w) := rz_max rfl (Nat.le_of_ble_eq_true rfl)
theorem g31_68 : rg Z d rx_m31 68 [l0, l1, l2, some (.int z), l4, l5, l6] (.int x :: S) (rz_mk h ι, w) = rg Z d rx_m31 70 [l0, l1, l2, some (.int z), some (.int x), l5, l6] S (rz_mk h ι, w) := rz_s1 fun _ => rfl
theorem g31_70 : rg Z d rx_m31 70 [l0, l1, l2, l3, some (.int z), some (.int x), l6] S (rz_mk h ι, w) = rg Z d rx_m31 73 [l0, l1, l2, l3, some (.int z), some (.int (x + 1)), l6] S (rz_mk h ι, w) := rz_s1 fun _ => rfl
theorem g31_73 : rg Z d rx_m31 73 L S (rz_mk h ι, w) = rg Z d rx_m31 6 L S (rz_mk h ι, w) := rz_s1 fun _ => rfl
theorem g31_76 : rg Z d rx_m31 76 [l0, l1, l2, l3, some (.int x), l5, l6] S (rz_mk h ι, w) = rg Z d rx_m31 78 [l0, l1, l2, l3, some (.int x), l5, l6] (.int x :: S) (rz_mk h ι, w) := rz_s1 fun _ => rfl
theorem g31_78 : rg Z d rx_m31 78 L [.int x] (rz_mk h ι, w) = some (.inl (some (.int x)), (rz_mk h ι, w)) := rz_reti rfl rfl rfl
theorem e31 : rz_f Z (d + 1) 31 [.ref t0, .ref t1, .ref t2, .int s3] σ = rg Z d rx_m31 0 [some (.ref t0), some (.ref t1), some (.ref t2), some (.int s3), none, none, none] [] σ := rz_f_eq rfl (Nat.le_of_ble_eq_true rfl)
theorem g32_0 : rg Z d rx_m32 0 L S (rz_mk h ι, w) = rg Z d rx_m32 1 L (.int 0 :: S) (rz_mk h ι, w) := rz_s1 fun _ => rfl
theorem g32_1 : rg Z d rx_m32 1 [l0, l1, l2, some (.int z), l4, l5] (.int x :: S) (rz_mk h ι, w) = rg Z d rx_m32 3 [l0, l1, l2, some (.int z), some (.int x), l5] S (rz_mk h ι, w) := rz_s1 fun _ => rfl
theorem g32_3 : rg Z d rx_m32 3 L S (rz_mk h ι, w) = rg Z d rx_m32 4 L (.int 0 :: S) (rz_mk h ι, w) := rz_s1 fun _ => rfl
theorem g32_4 : rg Z d rx_m32 4 [l0, l1, l2, l3, some (.int z), l5] (.int x :: S) (rz_mk h ι, w) = rg Z d rx_m32 6 [l0, l1, l2, l3, some (.int z), some (.int x)] S (rz_mk h ι, w) := rz_s1 fun _ => rfl
theorem g32_6 : rg Z d rx_m32 6 [l0, l1, l2, l3, l4, some (.int x)] S (rz_mk h ι, w) = rg Z d rx_m32 8 [l0, l1, l2, l3, l4, some (.int x)] (.int x :: S) (rz_mk h ι, w) := rz_s1 fun _ => rfl
theorem g32_8 : rg Z d rx_m32 8 L S (rz_mk h ι, w) = rg Z d rx_m32 9 L (.int 3 :: S) (rz_mk h ι, w) := rz_s1 fun _ => rfl
theorem g32_9 : rg Z d rx_m32 9 L (.int y :: .int x :: S) (rz_mk h ι, w) = if x < y then rg Z d rx_m32 12 L S (rz_mk h ι, w) else rg Z d rx_m32 40 L S (rz_mk h ι, w) := rz_if2 (pc := 9) (t := 40) (off := 31) (cc := .ge) (by decide) rfl
theorem g32_12 : rg Z d rx_m32 12 [l0, l1, l2, l3, some (.int x), l5] S (rz_mk h ι, w) = rg Z d rx_m32 14 [l0, l1, l2, l3, some (.int x), l5] (.int x :: S) (rz_mk h ι, w) := rz_s1 fun _ => rfl
theorem g32_14 : rg Z d rx_m32 14 [l0, l1, l2, some (.int x), l4, l5] S (rz_mk h ι, w) = rg Z d rx_m32 15 [l0, l1, l2, some (.int x), l4, l5] (.int x :: S) (rz_mk h ι, w) := rz_s1 fun _ => rfl
theorem g32_15 : rg Z d rx_m32 15 [l0, l1, l2, l3, l4, some (.int x)] S (rz_mk h ι, w) = rg Z d rx_m32 17 [l0, l1, l2, l3, l4, some (.int x)] (.int x :: S) (rz_mk h ι, w) := rz_s1 fun _ => rfl
theorem g32_17 : rg Z d rx_m32 17 L (v2 :: v1 :: [.int s0]) (rz_mk h ι, w) = rz_k true (rz_f Z d 29 [v1, v2] (rz_mk h ι, w)) (fun v σ' => rg Z d rx_m32 20 L (v.toList ++ [.int s0]) σ') := rz_cs (pc := 17) (n := 2) (mi := 29) (S := v2 :: v1 :: [.int s0]) (rest := [.int s0]) rfl rfl (Nat.le_of_ble_eq_true rfl) (Nat.le_of_ble_eq_true rfl)
theorem g32_20 : rg Z d rx_m32 20 [l0, some (.ref a), l2, l3, l4, l5] S (rz_mk h ι, w) = rg Z d rx_m32 21 [l0, some (.ref a), l2, l3, l4, l5] (.ref a :: S) (rz_mk h ι, w) := rz_s1 fun _ => rfl
theorem g32_21 : rg Z d rx_m32 21 [l0, l1, some (.int x), l3, l4, l5] S (rz_mk h ι, w) = rg Z d rx_m32 22 [l0, l1, some (.int x), l3, l4, l5] (.int x :: S) (rz_mk h ι, w) := rz_s1 fun _ => rfl
theorem g32_22 : rg Z d rx_m32 22 [l0, l1, l2, l3, l4, some (.int x)] S (rz_mk h ι, w) = rg Z d rx_m32 24 [l0, l1, l2, l3, l4, some (.int x)] (.int x :: S) (rz_mk h ι, w) := rz_s1 fun _ => rfl
theorem g32_24 (c : rz_oc h a 8) : rg Z d rx_m32 24 L (v2 :: v1 :: .ref a :: [.int s0, .int s1]) (rz_mk h ι, w) = rz_k true (rz_f Z d 70 [.ref a, v1, v2] (rz_mk h ι, w)) (fun v σ' => rg Z d rx_m32 27 L (v.toList ++ [.int s0, .int s1]) σ') := rz_cv (pc := 24) (n := 2) (mi := 70) (S := v2 :: v1 :: .ref a :: [.int s0, .int s1]) (rest := [.int s0, .int s1]) rfl rfl (Nat.le_of_ble_eq_true rfl) (Nat.le_of_ble_eq_true rfl) c
theorem g32_27 : rg Z d rx_m32 27 L (.int y :: .int x :: S) (rz_mk h ι, w) = rg Z d rx_m32 28 L (.int (x - y) :: S) (rz_mk h ι, w) := rz_s1 fun _ => rfl
theorem g32_28 : rg Z d rx_m32 28 L (.int x :: [.int s0]) (rz_mk h ι, w) = rg Z d rx_m32 31 L (.int (if 0 ≤ x then x else 0 - x) :: [.int s0]) (rz_mk h ι, w) := rz_abs rfl (Nat.le_of_ble_eq_true rfl)
theorem g32_31 : rg Z d rx_m32 31 L (.int y :: .int x :: S) (rz_mk h ι, w) = rg Z d rx_m32 32 L (.int (x + y) :: S) (rz_mk h ι, w) := rz_s1 fun _ => rfl
theorem g32_32 : rg Z d rx_m32 32 [l0, l1, l2, some (.int z), l4, l5] (.int x :: S) (rz_mk h ι, w) = rg Z d rx_m32 34 [l0, l1, l2, some (.int z), some (.int x), l5] S (rz_mk h ι, w) := rz_s1 fun _ => rfl
theorem g32_34 : rg Z d rx_m32 34 [l0, l1, l2, l3, some (.int z), some (.int x)] S (rz_mk h ι, w) = rg Z d rx_m32 37 [l0, l1, l2, l3, some (.int z), some (.int (x + 1))] S (rz_mk h ι, w) := rz_s1 fun _ => rfl
theorem g32_37 : rg Z d rx_m32 37 L S (rz_mk h ι, w) = rg Z d rx_m32 6 L S (rz_mk h ι, w) := rz_s1 fun _ => rfl
theorem g32_40 : rg Z d rx_m32 40 [l0, l1, l2, l3, some (.int x), l5] S (rz_mk h ι, w) = rg Z d rx_m32 42 [l0, l1, l2, l3, some (.int x), l5] (.int x :: S) (rz_mk h ι, w) := rz_s1 fun _ => rfl
theorem g32_42 : rg Z d rx_m32 42 L [.int x] (rz_mk h ι, w) = some (.inl (some (.int x)), (rz_mk h ι, w)) := rz_reti rfl rfl rfl
theorem e32 : rz_f Z (d + 1) 32 [.ref t0, .ref t1, .int s2, .int s3] σ = rg Z d rx_m32 0 [some (.ref t0), some (.ref t1), some (.int s2), some (.int s3), none, none] [] σ := rz_f_eq rfl (Nat.le_of_ble_eq_true rfl)
theorem g33_0 : rg Z d rx_m33 0 L S (rz_mk h ι, w) = rg Z d rx_m33 1 L (.int 0 :: S) (rz_mk h ι, w) := rz_s1 fun _ => rfl
theorem g33_1 : rg Z d rx_m33 1 [l0, l1, l2, l3, some (.int z), l5, l6] (.int x :: S) (rz_mk h ι, w) = rg Z d rx_m33 3 [l0, l1, l2, l3, some (.int z), some (.int x), l6] S (rz_mk h ι, w) := rz_s1 fun _ => rfl
theorem g33_3 : rg Z d rx_m33 3 L S (rz_mk h ι, w) = rg Z d rx_m33 4 L (.int 0 :: S) (rz_mk h ι, w) := rz_s1 fun _ => rfl
theorem g33_4 : rg Z d rx_m33 4 [l0, l1, l2, l3, l4, some (.int z), l6] (.int x :: S) (rz_mk h ι, w) = rg Z d rx_m33 6 [l0, l1, l2, l3, l4, some (.int z), some (.int x)] S (rz_mk h ι, w) := rz_s1 fun _ => rfl
theorem g33_6 : rg Z d rx_m33 6 [l0, l1, l2, l3, l4, l5, some (.int x)] S (rz_mk h ι, w) = rg Z d rx_m33 8 [l0, l1, l2, l3, l4, l5, some (.int x)] (.int x :: S) (rz_mk h ι, w) := rz_s1 fun _ => rfl
theorem g33_8 : rg Z d rx_m33 8 L S (rz_mk h ι, w) = rg Z d rx_m33 9 L (.int 3 :: S) (rz_mk h ι, w) := rz_s1 fun _ => rfl
theorem g33_9 : rg Z d rx_m33 9 L (.int y :: .int x :: S) (rz_mk h ι, w) = if x < y then rg Z d rx_m33 12 L S (rz_mk h ι, w) else rg Z d rx_m33 45 L S (rz_mk h ι, w) := rz_if2 (pc := 9) (t := 45) (off := 36) (cc := .ge) (by decide) rfl
theorem g33_12 : rg Z d rx_m33 12 [l0, l1, l2, l3, l4, some (.int x), l6] S (rz_mk h ι, w) = rg Z d rx_m33 14 [l0, l1, l2, l3, l4, some (.int x), l6] (.int x :: S) (rz_mk h ι, w) := rz_s1 fun _ => rfl
theorem g33_14 : rg Z d rx_m33 14 [l0, l1, l2, l3, some (.int x), l5, l6] S (rz_mk h ι, w) = rg Z d rx_m33 16 [l0, l1, l2, l3, some (.int x), l5, l6] (.int x :: S) (rz_mk h ι, w) := rz_s1 fun _ => rfl
theorem g33_16 : rg Z d rx_m33 16 [l0, l1, l2, l3, l4, l5, some (.int x)] S (rz_mk h ι, w) = rg Z d rx_m33 18 [l0, l1, l2, l3, l4, l5, some (.int x)] (.int x :: S) (rz_mk h ι, w) := rz_s1 fun _ => rfl
theorem g33_18 : rg Z d rx_m33 18 L (v2 :: v1 :: [.int s0]) (rz_mk h ι, w) = rz_k true (rz_f Z d 29 [v1, v2] (rz_mk h ι, w)) (fun v σ' => rg Z d rx_m33 21 L (v.toList ++ [.int s0]) σ') := rz_cs (pc := 18) (n := 2) (mi := 29) (S := v2 :: v1 :: [.int s0]) (rest := [.int s0]) rfl rfl (Nat.le_of_ble_eq_true rfl) (Nat.le_of_ble_eq_true rfl)
theorem g33_21 : rg Z d rx_m33 21 [l0, some (.ref a), l2, l3, l4, l5, l6] S (rz_mk h ι, w) = rg Z d rx_m33 22 [l0, some (.ref a), l2, l3, l4, l5, l6] (.ref a :: S) (rz_mk h ι, w) := rz_s1 fun _ => rfl
theorem g33_22 : rg Z d rx_m33 22 [l0, l1, l2, some (.int x), l4, l5, l6] S (rz_mk h ι, w) = rg Z d rx_m33 23 [l0, l1, l2, some (.int x), l4, l5, l6] (.int x :: S) (rz_mk h ι, w) := rz_s1 fun _ => rfl
theorem g33_23 : rg Z d rx_m33 23 [l0, l1, l2, l3, l4, l5, some (.int x)] S (rz_mk h ι, w) = rg Z d rx_m33 25 [l0, l1, l2, l3, l4, l5, some (.int x)] (.int x :: S) (rz_mk h ι, w) := rz_s1 fun _ => rfl
theorem g33_25 (c : rz_oc h a 8) : rg Z d rx_m33 25 L (v2 :: v1 :: .ref a :: [.int s0, .int s1]) (rz_mk h ι, w) = rz_k true (rz_f Z d 71 [.ref a, v1, v2] (rz_mk h ι, w)) (fun v σ' => rg Z d rx_m33 28 L (v.toList ++ [.int s0, .int s1]) σ') := rz_cv (pc := 25) (n := 2) (mi := 71) (S := v2 :: v1 :: .ref a :: [.int s0, .int s1]) (rest := [.int s0, .int s1]) rfl rfl (Nat.le_of_ble_eq_true rfl) (Nat.le_of_ble_eq_true rfl) c
theorem g33_28 : rg Z d rx_m33 28 L (.int y :: .int x :: S) (rz_mk h ι, w) = if x = y then rg Z d rx_m33 31 L S (rz_mk h ι, w) else rg Z d rx_m33 35 L S (rz_mk h ι, w) := rz_if2 (pc := 28) (t := 35) (off := 7) (cc := .ne) (by decide) rfl
theorem g33_31 : rg Z d rx_m33 31 L S (rz_mk h ι, w) = rg Z d rx_m33 32 L (.int 0 :: S) (rz_mk h ι, w) := rz_s1 fun _ => rfl
theorem g33_32 : rg Z d rx_m33 32 L S (rz_mk h ι, w) = rg Z d rx_m33 36 L S (rz_mk h ι, w) := rz_s1 fun _ => rfl
theorem g33_35 : rg Z d rx_m33 35 L S (rz_mk h ι, w) = rg Z d rx_m33 36 L (.int 1 :: S) (rz_mk h ι, w) := rz_s1 fun _ => rfl
theorem g33_36 : rg Z d rx_m33 36 L (.int y :: .int x :: S) (rz_mk h ι, w) = rg Z d rx_m33 37 L (.int (x + y) :: S) (rz_mk h ι, w) := rz_s1 fun _ => rfl
theorem g33_37 : rg Z d rx_m33 37 [l0, l1, l2, l3, some (.int z), l5, l6] (.int x :: S) (rz_mk h ι, w) = rg Z d rx_m33 39 [l0, l1, l2, l3, some (.int z), some (.int x), l6] S (rz_mk h ι, w) := rz_s1 fun _ => rfl
theorem g33_39 : rg Z d rx_m33 39 [l0, l1, l2, l3, l4, some (.int z), some (.int x)] S (rz_mk h ι, w) = rg Z d rx_m33 42 [l0, l1, l2, l3, l4, some (.int z), some (.int (x + 1))] S (rz_mk h ι, w) := rz_s1 fun _ => rfl
theorem g33_42 : rg Z d rx_m33 42 L S (rz_mk h ι, w) = rg Z d rx_m33 6 L S (rz_mk h ι, w) := rz_s1 fun _ => rfl
theorem g33_45 : rg Z d rx_m33 45 [l0, l1, some (.ref a), l3, l4, l5, l6] S (rz_mk h ι, w) = rg Z d rx_m33 46 [l0, l1, some (.ref a), l3, l4, l5, l6] (.ref a :: S) (rz_mk h ι, w) := rz_s1 fun _ => rfl
theorem g33_46 : rg Z d rx_m33 46 [l0, l1, l2, l3, l4, some (.int x), l6] S (rz_mk h ι, w) = rg Z d rx_m33 48 [l0, l1, l2, l3, l4, some (.int x), l6] (.int x :: S) (rz_mk h ι, w) := rz_s1 fun _ => rfl
theorem g33_48 : rg Z d rx_m33 48 [l0, some (.ref a), l2, l3, l4, l5, l6] S (rz_mk h ι, w) = rg Z d rx_m33 49 [l0, some (.ref a), l2, l3, l4, l5, l6] (.ref a :: S) (rz_mk h ι, w) := rz_s1 fun _ => rfl
theorem g33_49 : rg Z d rx_m33 49 [l0, l1, l2, some (.int x), l4, l5, l6] S (rz_mk h ι, w) = rg Z d rx_m33 50 [l0, l1, l2, some (.int x), l4, l5, l6] (.int x :: S) (rz_mk h ι, w) := rz_s1 fun _ => rfl
theorem g33_50 (c : rz_oc h a 8) : rg Z d rx_m33 50 L (v1 :: .ref a :: [.int s0, .ref t1]) (rz_mk h ι, w) = rz_k true (rz_f Z d 72 [.ref a, v1] (rz_mk h ι, w)) (fun v σ' => rg Z d rx_m33 53 L (v.toList ++ [.int s0, .ref t1]) σ') := rz_cv (pc := 50) (n := 1) (mi := 72) (S := v1 :: .ref a :: [.int s0, .ref t1]) (rest := [.int s0, .ref t1]) rfl rfl (Nat.le_of_ble_eq_true rfl) (Nat.le_of_ble_eq_true rfl) c
theorem g33_53 : rg Z d rx_m33 53 [l0, some (.ref a), l2, l3, l4, l5, l6] S (rz_mk h ι, w) = rg Z d rx_m33 54 [l0, some (.ref a), l2, l3, l4, l5, l6] (.ref a :: S) (rz_mk h ι, w) := rz_s1 fun _ => rfl
theorem g33_54 (c : rz_fI h a 8 6) : rg Z d rx_m33 54 L (.ref a :: S) (rz_mk h ι, w) = rg Z d rx_m33 57 L (.int (ι a 6) :: S) (rz_mk h ι, w) := rz_gI rfl (by decide) c
theorem g33_57 : rg Z d rx_m33 57 [l0, some (.ref a), l2, l3, l4, l5, l6] S (rz_mk h ι, w) = rg Z d rx_m33 58 [l0, some (.ref a), l2, l3, l4, l5, l6] (.ref a :: S) (rz_mk h ι, w) := rz_s1 fun _ => rfl
theorem g33_58 (c : rz_fI h a 8 7) : rg Z d rx_m33 58 L (.ref a :: S) (rz_mk h ι, w) = rg Z d rx_m33 61 L (.int (ι a 7) :: S) (rz_mk h ι, w) := rz_gI rfl (by decide) c
theorem g33_61 : rg Z d rx_m33 61 [l0, l1, l2, some (.int x), l4, l5, l6] S (rz_mk h ι, w) = rg Z d rx_m33 62 [l0, l1, l2, some (.int x), l4, l5, l6] (.int x :: S) (rz_mk h ι, w) := rz_s1 fun _ => rfl
theorem g33_62 (c : rz_oc h a 5) : rg Z d rx_m33 62 L (v5 :: v4 :: v3 :: v2 :: v1 :: .ref a :: []) (rz_mk h ι, w) = rz_k true (rz_f Z d 44 [.ref a, v1, v2, v3, v4, v5] (rz_mk h ι, w)) (fun v σ' => rg Z d rx_m33 65 L (v.toList ++ []) σ') := rz_cv (pc := 62) (n := 5) (mi := 44) (S := v5 :: v4 :: v3 :: v2 :: v1 :: .ref a :: []) (rest := []) rfl rfl (Nat.le_of_ble_eq_true rfl) (Nat.le_of_ble_eq_true rfl) c
theorem g33_65 : rg Z d rx_m33 65 [some (.ref a), l1, l2, l3, l4, l5, l6] S (rz_mk h ι, w) = rg Z d rx_m33 66 [some (.ref a), l1, l2, l3, l4, l5, l6] (.ref a :: S) (rz_mk h ι, w) := rz_s1 fun _ => rfl
theorem g33_66 : rg Z d rx_m33 66 [l0, l1, some (.ref a), l3, l4, l5, l6] S (rz_mk h ι, w) = rg Z d rx_m33 67 [l0, l1, some (.ref a), l3, l4, l5, l6] (.ref a :: S) (rz_mk h ι, w) := rz_s1 fun _ => rfl
theorem g33_67 : rg Z d rx_m33 67 [l0, l1, l2, l3, some (.int x), l5, l6] S (rz_mk h ι, w) = rg Z d rx_m33 69 [l0, l1, l2, l3, some (.int x), l5, l6] (.int x :: S) (rz_mk h ι, w) := rz_s1 fun _ => rfl
theorem g33_69 (c : rz_oc h a 4) : rg Z d rx_m33 69 L (v2 :: v1 :: .ref a :: []) (rz_mk h ι, w) = rz_k true (rz_f Z d 35 [.ref a, v1, v2] (rz_mk h ι, w)) (fun v σ' => rg Z d rx_m33 72 L (v.toList ++ []) σ') := rz_cv (pc := 69) (n := 2) (mi := 35) (S := v2 :: v1 :: .ref a :: []) (rest := []) rfl rfl (Nat.le_of_ble_eq_true rfl) (Nat.le_of_ble_eq_true rfl) c
theorem g33_72 : rg Z d rx_m33 72 L [.int x] (rz_mk h ι, w) = some (.inl (some (.int x)), (rz_mk h ι, w)) := rz_reti rfl rfl rfl
theorem e33 : rz_f Z (d + 1) 33 [.ref t0, .ref t1, .ref t2, .int s3, .int s4] σ = rg Z d rx_m33 0 [some (.ref t0), some (.ref t1), some (.ref t2), some (.int s3), some (.int s4), none, none] [] σ := rz_f_eq rfl (Nat.le_of_ble_eq_true rfl)
theorem g34_0 : rg Z d rx_m34 0 L S (rz_mk h ι, w) = rg Z d rx_m34 1 L (.int 0 :: S) (rz_mk h ι, w) := rz_s1 fun _ => rfl
theorem g34_1 : rg Z d rx_m34 1 [l0, l1, some (.int z), l3] (.int x :: S) (rz_mk h ι, w) = rg Z d rx_m34 2 [l0, l1, some (.int z), some (.int x)] S (rz_mk h ι, w) := rz_s1 fun _ => rfl
theorem g34_2 : rg Z d rx_m34 2 [l0, l1, l2, some (.int x)] S (rz_mk h ι, w) = rg Z d rx_m34 3 [l0, l1, l2, some (.int x)] (.int x :: S) (rz_mk h ι, w) := rz_s1 fun _ => rfl
theorem g34_3 : rg Z d rx_m34 3 [some (.ref a), l1, l2, l3] S (rz_mk h ι, w) = rg Z d rx_m34 4 [some (.ref a), l1, l2, l3] (.ref a :: S) (rz_mk h ι, w) := rz_s1 fun _ => rfl
theorem g34_4 (c : rz_fR h a 4 1) : rg Z d rx_m34 4 L (.ref a :: S) (rz_mk h ι, w) = rg Z d rx_m34 7 L (rz_rv h a 1 :: S) (rz_mk h ι, w) := rz_gR rfl (by decide) c
theorem g34_7 (c : rz_ar h a 0) : rg Z d rx_m34 7 L (.ref a :: S) (rz_mk h ι, w) = rg Z d rx_m34 8 L (.int (Int32.ofNat (rz_ln h a)) :: S) (rz_mk h ι, w) := rz_alen (by decide) rfl c
theorem g34_8 : rg Z d rx_m34 8 L (.int y :: .int x :: S) (rz_mk h ι, w) = if x < y then rg Z d rx_m34 11 L S (rz_mk h ι, w) else rg Z d rx_m34 40 L S (rz_mk h ι, w) := rz_if2 (pc := 8) (t := 40) (off := 32) (cc := .ge) (by decide) rfl
theorem g34_11 : rg Z d rx_m34 11 [some (.ref a), l1, l2, l3] S (rz_mk h ι, w) = rg Z d rx_m34 12 [some (.ref a), l1, l2, l3] (.ref a :: S) (rz_mk h ι, w) := rz_s1 fun _ => rfl
theorem g34_12 (c : rz_fR h a 4 1) : rg Z d rx_m34 12 L (.ref a :: S) (rz_mk h ι, w) = rg Z d rx_m34 15 L (rz_rv h a 1 :: S) (rz_mk h ι, w) := rz_gR rfl (by decide) c
theorem g34_15 : rg Z d rx_m34 15 [l0, l1, l2, some (.int x)] S (rz_mk h ι, w) = rg Z d rx_m34 16 [l0, l1, l2, some (.int x)] (.int x :: S) (rz_mk h ι, w) := rz_s1 fun _ => rfl
theorem g34_16 : rg Z d rx_m34 16 [l0, l1, l2, some (.int x)] S (rz_mk h ι, w) = rg Z d rx_m34 17 [l0, l1, l2, some (.int x)] (.int x :: S) (rz_mk h ι, w) := rz_s1 fun _ => rfl
theorem g34_17 : rg Z d rx_m34 17 L S (rz_mk h ι, w) = rg Z d rx_m34 19 L (.int 10 :: S) (rz_mk h ι, w) := rz_s1 fun _ => rfl
theorem g34_19 : rg Z d rx_m34 19 L (.int 10 :: .int x :: S) (rz_mk h ι, w) = rg Z d rx_m34 20 L (.int (x - x / 10 * 10) :: S) (rz_mk h ι, w) := rz_rem rfl (by decide)
theorem g34_20 : rg Z d rx_m34 20 [l0, some (.ref a), l2, l3] S (rz_mk h ι, w) = rg Z d rx_m34 21 [l0, some (.ref a), l2, l3] (.ref a :: S) (rz_mk h ι, w) := rz_s1 fun _ => rfl
theorem g34_21 : rg Z d rx_m34 21 [l0, l1, some (.int x), l3] S (rz_mk h ι, w) = rg Z d rx_m34 22 [l0, l1, some (.int x), l3] (.int x :: S) (rz_mk h ι, w) := rz_s1 fun _ => rfl
theorem g34_22 : rg Z d rx_m34 22 [l0, l1, l2, some (.int x)] S (rz_mk h ι, w) = rg Z d rx_m34 23 [l0, l1, l2, some (.int x)] (.int x :: S) (rz_mk h ι, w) := rz_s1 fun _ => rfl
theorem g34_23 : rg Z d rx_m34 23 L S (rz_mk h ι, w) = rg Z d rx_m34 25 L (.int 10 :: S) (rz_mk h ι, w) := rz_s1 fun _ => rfl
theorem g34_25 : rg Z d rx_m34 25 L (.int 10 :: .int x :: S) (rz_mk h ι, w) = rg Z d rx_m34 26 L (.int (x / 10) :: S) (rz_mk h ι, w) := rz_div rfl (by decide)
theorem g34_26 (c : rz_oc h a 8) : rg Z d rx_m34 26 L (v2 :: v1 :: .ref a :: [.int s0, .int s1, .ref t2]) (rz_mk h ι, w) = rz_k true (rz_f Z d 70 [.ref a, v1, v2] (rz_mk h ι, w)) (fun v σ' => rg Z d rx_m34 29 L (v.toList ++ [.int s0, .int s1, .ref t2]) σ') := rz_cv (pc := 26) (n := 2) (mi := 70) (S := v2 :: v1 :: .ref a :: [.int s0, .int s1, .ref t2]) (rest := [.int s0, .int s1, .ref t2]) rfl rfl (Nat.le_of_ble_eq_true rfl) (Nat.le_of_ble_eq_true rfl) c
theorem g34_29 : rg Z d rx_m34 29 L (.int y :: .int x :: S) (rz_mk h ι, w) = rg Z d rx_m34 30 L (.int (x - y) :: S) (rz_mk h ι, w) := rz_s1 fun _ => rfl
theorem g34_30 : rg Z d rx_m34 30 L (.int x :: [.int s0, .ref t1]) (rz_mk h ι, w) = rg Z d rx_m34 33 L (.int (if 0 ≤ x then x else 0 - x) :: [.int s0, .ref t1]) (rz_mk h ι, w) := rz_abs rfl (Nat.le_of_ble_eq_true rfl)
theorem g34_33 (c : rz_ar h a 0) (hi : rz_ix x (rz_ln h a)) (hz : Z.2.1 ≤ a) : rg Z d rx_m34 33 L (.int y :: .int x :: .ref a :: S) (rz_mk h ι, w) = rg Z d rx_m34 34 L S (rz_mk h (rz_up ι a x.toNatClampNeg y), w) := rz_iast rfl c hi hz
theorem g34_34 : rg Z d rx_m34 34 [l0, l1, some (.int z), some (.int x)] S (rz_mk h ι, w) = rg Z d rx_m34 37 [l0, l1, some (.int z), some (.int (x + 1))] S (rz_mk h ι, w) := rz_s1 fun _ => rfl
theorem g34_37 : rg Z d rx_m34 37 L S (rz_mk h ι, w) = rg Z d rx_m34 2 L S (rz_mk h ι, w) := rz_s1 fun _ => rfl
theorem g34_40 : rg Z d rx_m34 40 L [] (rz_mk h ι, w) = some (.inl none, (rz_mk h ι, w)) := rz_r1 fun _ => rfl
theorem e34 : rz_f Z (d + 1) 34 [.ref t0, .ref t1, .int s2] σ = rg Z d rx_m34 0 [some (.ref t0), some (.ref t1), some (.int s2), none] [] σ := rz_f_eq rfl (Nat.le_of_ble_eq_true rfl)
theorem g35_0 : rg Z d rx_m35 0 [l0, l1, some (.int x)] S (rz_mk h ι, w) = rg Z d rx_m35 1 [l0, l1, some (.int x)] (.int x :: S) (rz_mk h ι, w) := rz_s1 fun _ => rfl
theorem g35_1 : rg Z d rx_m35 1 L (.int x :: S) (rz_mk h ι, w) = if x < 0 then rg Z d rx_m35 11 L S (rz_mk h ι, w) else rg Z d rx_m35 4 L S (rz_mk h ι, w) := rz_if1 (pc := 1) (t := 11) (off := 10) (cc := .lt) (by decide) rfl
theorem g35_4 : rg Z d rx_m35 4 [l0, l1, some (.int x)] S (rz_mk h ι, w) = rg Z d rx_m35 5 [l0, l1, some (.int x)] (.int x :: S) (rz_mk h ι, w) := rz_s1 fun _ => rfl
theorem g35_5 : rg Z d rx_m35 5 L S (rz_mk h ι, w) = rg Z d rx_m35 8 L (.int 1000 :: S) (rz_mk h ι, w) := rz_s1 fun _ => rfl
theorem g35_8 : rg Z d rx_m35 8 L (.int y :: .int x :: S) (rz_mk h ι, w) = if x < y then rg Z d rx_m35 13 L S (rz_mk h ι, w) else rg Z d rx_m35 11 L S (rz_mk h ι, w) := rz_if2 (pc := 8) (t := 13) (off := 5) (cc := .lt) (by decide) rfl
theorem g35_11 : rg Z d rx_m35 11 L S (rz_mk h ι, w) = rg Z d rx_m35 12 L (.int (-1) :: S) (rz_mk h ι, w) := rz_s1 fun _ => rfl
theorem g35_12 : rg Z d rx_m35 12 L [.int x] (rz_mk h ι, w) = some (.inl (some (.int x)), (rz_mk h ι, w)) := rz_reti rfl rfl rfl
theorem g35_13 : rg Z d rx_m35 13 [l0, some (.ref a), l2] S (rz_mk h ι, w) = rg Z d rx_m35 14 [l0, some (.ref a), l2] (.ref a :: S) (rz_mk h ι, w) := rz_s1 fun _ => rfl
theorem g35_14 : rg Z d rx_m35 14 [some (.ref a), l1, l2] S (rz_mk h ι, w) = rg Z d rx_m35 15 [some (.ref a), l1, l2] (.ref a :: S) (rz_mk h ι, w) := rz_s1 fun _ => rfl
theorem g35_15 (c : rz_fR h a 4 1) : rg Z d rx_m35 15 L (.ref a :: S) (rz_mk h ι, w) = rg Z d rx_m35 18 L (rz_rv h a 1 :: S) (rz_mk h ι, w) := rz_gR rfl (by decide) c
theorem g35_18 : rg Z d rx_m35 18 [l0, l1, some (.int x)] S (rz_mk h ι, w) = rg Z d rx_m35 19 [l0, l1, some (.int x)] (.int x :: S) (rz_mk h ι, w) := rz_s1 fun _ => rfl
theorem g35_19 : rg Z d rx_m35 19 L S (rz_mk h ι, w) = rg Z d rx_m35 21 L (.int 100 :: S) (rz_mk h ι, w) := rz_s1 fun _ => rfl
theorem g35_21 : rg Z d rx_m35 21 L (.int 100 :: .int x :: S) (rz_mk h ι, w) = rg Z d rx_m35 22 L (.int (x / 100) :: S) (rz_mk h ι, w) := rz_div rfl (by decide)
theorem g35_22 (c : rz_ar h a 0) (hi : rz_ix x (rz_ln h a)) : rg Z d rx_m35 22 L (.int x :: .ref a :: S) (rz_mk h ι, w) = rg Z d rx_m35 23 L (.int (ι a x.toNatClampNeg) :: S) (rz_mk h ι, w) := rz_iald rfl c hi
theorem g35_23 : rg Z d rx_m35 23 [some (.ref a), l1, l2] S (rz_mk h ι, w) = rg Z d rx_m35 24 [some (.ref a), l1, l2] (.ref a :: S) (rz_mk h ι, w) := rz_s1 fun _ => rfl
theorem g35_24 (c : rz_fR h a 4 1) : rg Z d rx_m35 24 L (.ref a :: S) (rz_mk h ι, w) = rg Z d rx_m35 27 L (rz_rv h a 1 :: S) (rz_mk h ι, w) := rz_gR rfl (by decide) c
theorem g35_27 : rg Z d rx_m35 27 L S (rz_mk h ι, w) = rg Z d rx_m35 29 L (.int 10 :: S) (rz_mk h ι, w) := rz_s1 fun _ => rfl
theorem g35_29 : rg Z d rx_m35 29 [l0, l1, some (.int x)] S (rz_mk h ι, w) = rg Z d rx_m35 30 [l0, l1, some (.int x)] (.int x :: S) (rz_mk h ι, w) := rz_s1 fun _ => rfl
theorem g35_30 : rg Z d rx_m35 30 L S (rz_mk h ι, w) = rg Z d rx_m35 32 L (.int 10 :: S) (rz_mk h ι, w) := rz_s1 fun _ => rfl
theorem g35_32 : rg Z d rx_m35 32 L (.int 10 :: .int x :: S) (rz_mk h ι, w) = rg Z d rx_m35 33 L (.int (x / 10) :: S) (rz_mk h ι, w) := rz_div rfl (by decide)
theorem g35_33 : rg Z d rx_m35 33 L S (rz_mk h ι, w) = rg Z d rx_m35 35 L (.int 10 :: S) (rz_mk h ι, w) := rz_s1 fun _ => rfl
theorem g35_35 : rg Z d rx_m35 35 L (.int 10 :: .int x :: S) (rz_mk h ι, w) = rg Z d rx_m35 36 L (.int (x - x / 10 * 10) :: S) (rz_mk h ι, w) := rz_rem rfl (by decide)
theorem g35_36 : rg Z d rx_m35 36 L (.int y :: .int x :: S) (rz_mk h ι, w) = rg Z d rx_m35 37 L (.int (x + y) :: S) (rz_mk h ι, w) := rz_s1 fun _ => rfl
theorem g35_37 (c : rz_ar h a 0) (hi : rz_ix x (rz_ln h a)) : rg Z d rx_m35 37 L (.int x :: .ref a :: S) (rz_mk h ι, w) = rg Z d rx_m35 38 L (.int (ι a x.toNatClampNeg) :: S) (rz_mk h ι, w) := rz_iald rfl c hi
theorem g35_38 : rg Z d rx_m35 38 [some (.ref a), l1, l2] S (rz_mk h ι, w) = rg Z d rx_m35 39 [some (.ref a), l1, l2] (.ref a :: S) (rz_mk h ι, w) := rz_s1 fun _ => rfl
theorem g35_39 (c : rz_fR h a 4 1) : rg Z d rx_m35 39 L (.ref a :: S) (rz_mk h ι, w) = rg Z d rx_m35 42 L (rz_rv h a 1 :: S) (rz_mk h ι, w) := rz_gR rfl (by decide) c
theorem g35_42 : rg Z d rx_m35 42 L S (rz_mk h ι, w) = rg Z d rx_m35 44 L (.int 20 :: S) (rz_mk h ι, w) := rz_s1 fun _ => rfl
theorem g35_44 : rg Z d rx_m35 44 [l0, l1, some (.int x)] S (rz_mk h ι, w) = rg Z d rx_m35 45 [l0, l1, some (.int x)] (.int x :: S) (rz_mk h ι, w) := rz_s1 fun _ => rfl
theorem g35_45 : rg Z d rx_m35 45 L S (rz_mk h ι, w) = rg Z d rx_m35 47 L (.int 10 :: S) (rz_mk h ι, w) := rz_s1 fun _ => rfl
theorem g35_47 : rg Z d rx_m35 47 L (.int 10 :: .int x :: S) (rz_mk h ι, w) = rg Z d rx_m35 48 L (.int (x - x / 10 * 10) :: S) (rz_mk h ι, w) := rz_rem rfl (by decide)
theorem g35_48 : rg Z d rx_m35 48 L (.int y :: .int x :: S) (rz_mk h ι, w) = rg Z d rx_m35 49 L (.int (x + y) :: S) (rz_mk h ι, w) := rz_s1 fun _ => rfl
theorem g35_49 (c : rz_ar h a 0) (hi : rz_ix x (rz_ln h a)) : rg Z d rx_m35 49 L (.int x :: .ref a :: S) (rz_mk h ι, w) = rg Z d rx_m35 50 L (.int (ι a x.toNatClampNeg) :: S) (rz_mk h ι, w) := rz_iald rfl c hi
theorem g35_50 (c : rz_oc h a 5) : rg Z d rx_m35 50 L (v3 :: v2 :: v1 :: .ref a :: []) (rz_mk h ι, w) = rz_k true (rz_f Z d 46 [.ref a, v1, v2, v3] (rz_mk h ι, w)) (fun v σ' => rg Z d rx_m35 53 L (v.toList ++ []) σ') := rz_cv (pc := 50) (n := 3) (mi := 46) (S := v3 :: v2 :: v1 :: .ref a :: []) (rest := []) rfl rfl (Nat.le_of_ble_eq_true rfl) (Nat.le_of_ble_eq_true rfl) c
theorem g35_53 : rg Z d rx_m35 53 L [.int x] (rz_mk h ι, w) = some (.inl (some (.int x)), (rz_mk h ι, w)) := rz_reti rfl rfl rfl
theorem e35 : rz_f Z (d + 1) 35 [.ref t0, .ref t1, .int s2] σ = rg Z d rx_m35 0 [some (.ref t0), some (.ref t1), some (.int s2)] [] σ := rz_f_eq rfl (Nat.le_of_ble_eq_true rfl)
theorem g36_0 : rg Z d rx_m36 0 L S (rz_mk h ι, w) = rg Z d rx_m36 1 L (.int 0 :: S) (rz_mk h ι, w) := rz_s1 fun _ => rfl
theorem g36_1 : rg Z d rx_m36 1 [l0, l1, l2, some (.ref b), l4] (.int x :: S) (rz_mk h ι, w) = rg Z d rx_m36 3 [l0, l1, l2, some (.ref b), some (.int x)] S (rz_mk h ι, w) := rz_s1 fun _ => rfl
theorem g36_3 : rg Z d rx_m36 3 [l0, l1, l2, l3, some (.int x)] S (rz_mk h ι, w) = rg Z d rx_m36 5 [l0, l1, l2, l3, some (.int x)] (.int x :: S) (rz_mk h ι, w) := rz_s1 fun _ => rfl
theorem g36_5 : rg Z d rx_m36 5 L S (rz_mk h ι, w) = rg Z d rx_m36 8 L (.int 1000 :: S) (rz_mk h ι, w) := rz_s1 fun _ => rfl
theorem g36_8 : rg Z d rx_m36 8 L (.int y :: .int x :: S) (rz_mk h ι, w) = if x < y then rg Z d rx_m36 11 L S (rz_mk h ι, w) else rg Z d rx_m36 26 L S (rz_mk h ι, w) := rz_if2 (pc := 8) (t := 26) (off := 18) (cc := .ge) (by decide) rfl
theorem g36_11 : rg Z d rx_m36 11 [some (.ref a), l1, l2, l3, l4] S (rz_mk h ι, w) = rg Z d rx_m36 12 [some (.ref a), l1, l2, l3, l4] (.ref a :: S) (rz_mk h ι, w) := rz_s1 fun _ => rfl
theorem g36_12 (c : rz_fR h a 4 2) : rg Z d rx_m36 12 L (.ref a :: S) (rz_mk h ι, w) = rg Z d rx_m36 15 L (rz_rv h a 2 :: S) (rz_mk h ι, w) := rz_gR rfl (by decide) c
theorem g36_15 : rg Z d rx_m36 15 [l0, l1, l2, l3, some (.int x)] S (rz_mk h ι, w) = rg Z d rx_m36 17 [l0, l1, l2, l3, some (.int x)] (.int x :: S) (rz_mk h ι, w) := rz_s1 fun _ => rfl
theorem g36_17 : rg Z d rx_m36 17 [l0, l1, l2, l3, some (.int x)] S (rz_mk h ι, w) = rg Z d rx_m36 19 [l0, l1, l2, l3, some (.int x)] (.int x :: S) (rz_mk h ι, w) := rz_s1 fun _ => rfl
theorem g36_19 (c : rz_ar h a 0) (hi : rz_ix x (rz_ln h a)) (hz : Z.2.1 ≤ a) : rg Z d rx_m36 19 L (.int y :: .int x :: .ref a :: S) (rz_mk h ι, w) = rg Z d rx_m36 20 L S (rz_mk h (rz_up ι a x.toNatClampNeg y), w) := rz_iast rfl c hi hz
theorem g36_20 : rg Z d rx_m36 20 [l0, l1, l2, some (.ref b), some (.int x)] S (rz_mk h ι, w) = rg Z d rx_m36 23 [l0, l1, l2, some (.ref b), some (.int (x + 1))] S (rz_mk h ι, w) := rz_s1 fun _ => rfl
theorem g36_23 : rg Z d rx_m36 23 L S (rz_mk h ι, w) = rg Z d rx_m36 3 L S (rz_mk h ι, w) := rz_s1 fun _ => rfl
theorem g36_26 : rg Z d rx_m36 26 [some (.ref a), l1, l2, l3, l4] S (rz_mk h ι, w) = rg Z d rx_m36 27 [some (.ref a), l1, l2, l3, l4] (.ref a :: S) (rz_mk h ι, w) := rz_s1 fun _ => rfl
theorem g36_27 : rg Z d rx_m36 27 L S (rz_mk h ι, w) = rg Z d rx_m36 30 L (.int 1000 :: S) (rz_mk h ι, w) := rz_s1 fun _ => rfl
theorem g36_30 (c : rz_fI h a 4 3) (hz : Z.2.1 ≤ a) : rg Z d rx_m36 30 L (.int x :: .ref a :: S) (rz_mk h ι, w) = rg Z d rx_m36 33 L S (rz_mk h (rz_up ι a 3 x), w) := rz_pI rfl c hz
theorem g36_33 : rg Z d rx_m36 33 L S (rz_mk h ι, w) = rg Z d rx_m36 34 L (.int 0 :: S) (rz_mk h ι, w) := rz_s1 fun _ => rfl
theorem g36_34 : rg Z d rx_m36 34 [l0, l1, l2, some (.ref b), l4] (.int x :: S) (rz_mk h ι, w) = rg Z d rx_m36 36 [l0, l1, l2, some (.ref b), some (.int x)] S (rz_mk h ι, w) := rz_s1 fun _ => rfl
theorem g36_36 : rg Z d rx_m36 36 [l0, l1, l2, l3, some (.int x)] S (rz_mk h ι, w) = rg Z d rx_m36 38 [l0, l1, l2, l3, some (.int x)] (.int x :: S) (rz_mk h ι, w) := rz_s1 fun _ => rfl
theorem g36_38 : rg Z d rx_m36 38 L S (rz_mk h ι, w) = rg Z d rx_m36 40 L (.int 8 :: S) (rz_mk h ι, w) := rz_s1 fun _ => rfl
theorem g36_40 : rg Z d rx_m36 40 L (.int y :: .int x :: S) (rz_mk h ι, w) = if x < y then rg Z d rx_m36 43 L S (rz_mk h ι, w) else rg Z d rx_m36 72 L S (rz_mk h ι, w) := rz_if2 (pc := 40) (t := 72) (off := 32) (cc := .ge) (by decide) rfl
theorem g36_43 : rg Z d rx_m36 43 [l0, l1, l2, some (.ref a), l4] S (rz_mk h ι, w) = rg Z d rx_m36 44 [l0, l1, l2, some (.ref a), l4] (.ref a :: S) (rz_mk h ι, w) := rz_s1 fun _ => rfl
theorem g36_44 : rg Z d rx_m36 44 [l0, l1, l2, l3, some (.int x)] S (rz_mk h ι, w) = rg Z d rx_m36 46 [l0, l1, l2, l3, some (.int x)] (.int x :: S) (rz_mk h ι, w) := rz_s1 fun _ => rfl
theorem g36_46 (c : rz_oc h a 0) : rg Z d rx_m36 46 L (v1 :: .ref a :: []) (rz_mk h ι, w) = rz_k true (rz_f Z d 2 [.ref a, v1] (rz_mk h ι, w)) (fun v σ' => rg Z d rx_m36 49 L (v.toList ++ []) σ') := rz_cv (pc := 46) (n := 1) (mi := 2) (S := v1 :: .ref a :: []) (rest := []) rfl rfl (Nat.le_of_ble_eq_true rfl) (Nat.le_of_ble_eq_true rfl) c
theorem g36_49 : rg Z d rx_m36 49 L (.int x :: S) (rz_mk h ι, w) = if x = 0 then rg Z d rx_m36 66 L S (rz_mk h ι, w) else rg Z d rx_m36 52 L S (rz_mk h ι, w) := rz_if1 (pc := 49) (t := 66) (off := 17) (cc := .eq) (by decide) rfl
theorem g36_52 : rg Z d rx_m36 52 [some (.ref a), l1, l2, l3, l4] S (rz_mk h ι, w) = rg Z d rx_m36 53 [some (.ref a), l1, l2, l3, l4] (.ref a :: S) (rz_mk h ι, w) := rz_s1 fun _ => rfl
theorem g36_53 : rg Z d rx_m36 53 [l0, some (.ref a), l2, l3, l4] S (rz_mk h ι, w) = rg Z d rx_m36 54 [l0, some (.ref a), l2, l3, l4] (.ref a :: S) (rz_mk h ι, w) := rz_s1 fun _ => rfl
theorem g36_54 : rg Z d rx_m36 54 [l0, l1, some (.ref a), l3, l4] S (rz_mk h ι, w) = rg Z d rx_m36 55 [l0, l1, some (.ref a), l3, l4] (.ref a :: S) (rz_mk h ι, w) := rz_s1 fun _ => rfl
theorem g36_55 : rg Z d rx_m36 55 [l0, l1, l2, l3, some (.int x)] S (rz_mk h ι, w) = rg Z d rx_m36 57 [l0, l1, l2, l3, some (.int x)] (.int x :: S) (rz_mk h ι, w) := rz_s1 fun _ => rfl
theorem g36_57 : rg Z d rx_m36 57 [l0, l1, l2, some (.ref a), l4] S (rz_mk h ι, w) = rg Z d rx_m36 58 [l0, l1, l2, some (.ref a), l4] (.ref a :: S) (rz_mk h ι, w) := rz_s1 fun _ => rfl
theorem g36_58 : rg Z d rx_m36 58 [l0, l1, l2, l3, some (.int x)] S (rz_mk h ι, w) = rg Z d rx_m36 60 [l0, l1, l2, l3, some (.int x)] (.int x :: S) (rz_mk h ι, w) := rz_s1 fun _ => rfl
theorem g36_60 (c : rz_oc h a 0) : rg Z d rx_m36 60 L (v1 :: .ref a :: [.int s0, .ref t1, .ref t2, .ref t3]) (rz_mk h ι, w) = rz_k true (rz_f Z d 3 [.ref a, v1] (rz_mk h ι, w)) (fun v σ' => rg Z d rx_m36 63 L (v.toList ++ [.int s0, .ref t1, .ref t2, .ref t3]) σ') := rz_cv (pc := 60) (n := 1) (mi := 3) (S := v1 :: .ref a :: [.int s0, .ref t1, .ref t2, .ref t3]) (rest := [.int s0, .ref t1, .ref t2, .ref t3]) rfl rfl (Nat.le_of_ble_eq_true rfl) (Nat.le_of_ble_eq_true rfl) c
theorem g36_63 (c : rz_oc h a 4) : rg Z d rx_m36 63 L (v4 :: v3 :: v2 :: v1 :: .ref a :: []) (rz_mk h ι, w) = rz_k true (rz_f Z d 37 [.ref a, v1, v2, v3, v4] (rz_mk h ι, w)) (fun v σ' => rg Z d rx_m36 66 L (v.toList ++ []) σ') := rz_cv (pc := 63) (n := 4) (mi := 37) (S := v4 :: v3 :: v2 :: v1 :: .ref a :: []) (rest := []) rfl rfl (Nat.le_of_ble_eq_true rfl) (Nat.le_of_ble_eq_true rfl) c
theorem g36_66 : rg Z d rx_m36 66 [l0, l1, l2, some (.ref b), some (.int x)] S (rz_mk h ι, w) = rg Z d rx_m36 69 [l0, l1, l2, some (.ref b), some (.int (x + 1))] S (rz_mk h ι, w) := rz_s1 fun _ => rfl
theorem g36_69 : rg Z d rx_m36 69 L S (rz_mk h ι, w) = rg Z d rx_m36 36 L S (rz_mk h ι, w) := rz_s1 fun _ => rfl
theorem g36_72 : rg Z d rx_m36 72 L [] (rz_mk h ι, w) = some (.inl none, (rz_mk h ι, w)) := rz_r1 fun _ => rfl
theorem e36 : rz_f Z (d + 1) 36 [.ref t0, .ref t1, .ref t2, .ref t3] σ = rg Z d rx_m36 0 [some (.ref t0), some (.ref t1), some (.ref t2), some (.ref t3), none] [] σ := rz_f_eq rfl (Nat.le_of_ble_eq_true rfl)
theorem g37_0 : rg Z d rx_m37 0 L S (rz_mk h ι, w) = rg Z d rx_m37 1 L (.int 0 :: S) (rz_mk h ι, w) := rz_s1 fun _ => rfl
theorem g37_1 : rg Z d rx_m37 1 [l0, l1, l2, l3, some (.int z), l5, l6] (.int x :: S) (rz_mk h ι, w) = rg Z d rx_m37 3 [l0, l1, l2, l3, some (.int z), some (.int x), l6] S (rz_mk h ι, w) := rz_s1 fun _ => rfl
theorem g37_3 : rg Z d rx_m37 3 [l0, l1, some (.ref a), l3, l4, l5, l6] S (rz_mk h ι, w) = rg Z d rx_m37 4 [l0, l1, some (.ref a), l3, l4, l5, l6] (.ref a :: S) (rz_mk h ι, w) := rz_s1 fun _ => rfl
theorem g37_4 : rg Z d rx_m37 4 [l0, some (.ref a), l2, l3, l4, l5, l6] S (rz_mk h ι, w) = rg Z d rx_m37 5 [l0, some (.ref a), l2, l3, l4, l5, l6] (.ref a :: S) (rz_mk h ι, w) := rz_s1 fun _ => rfl
theorem g37_5 : rg Z d rx_m37 5 [l0, l1, l2, some (.int x), l4, l5, l6] S (rz_mk h ι, w) = rg Z d rx_m37 6 [l0, l1, l2, some (.int x), l4, l5, l6] (.int x :: S) (rz_mk h ι, w) := rz_s1 fun _ => rfl
theorem g37_6 (c : rz_oc h a 5) : rg Z d rx_m37 6 L (v2 :: v1 :: .ref a :: []) (rz_mk h ι, w) = rz_k true (rz_f Z d 45 [.ref a, v1, v2] (rz_mk h ι, w)) (fun v σ' => rg Z d rx_m37 9 L (v.toList ++ []) σ') := rz_cv (pc := 6) (n := 2) (mi := 45) (S := v2 :: v1 :: .ref a :: []) (rest := []) rfl rfl (Nat.le_of_ble_eq_true rfl) (Nat.le_of_ble_eq_true rfl) c
theorem g37_9 : rg Z d rx_m37 9 [some (.ref a), l1, l2, l3, l4, l5, l6] S (rz_mk h ι, w) = rg Z d rx_m37 10 [some (.ref a), l1, l2, l3, l4, l5, l6] (.ref a :: S) (rz_mk h ι, w) := rz_s1 fun _ => rfl
theorem g37_10 : rg Z d rx_m37 10 [l0, some (.ref a), l2, l3, l4, l5, l6] S (rz_mk h ι, w) = rg Z d rx_m37 11 [l0, some (.ref a), l2, l3, l4, l5, l6] (.ref a :: S) (rz_mk h ι, w) := rz_s1 fun _ => rfl
theorem g37_11 : rg Z d rx_m37 11 [l0, l1, l2, some (.int x), l4, l5, l6] S (rz_mk h ι, w) = rg Z d rx_m37 12 [l0, l1, l2, some (.int x), l4, l5, l6] (.int x :: S) (rz_mk h ι, w) := rz_s1 fun _ => rfl
theorem g37_12 (c : rz_oc h a 4) : rg Z d rx_m37 12 L (v2 :: v1 :: .ref a :: []) (rz_mk h ι, w) = rz_k true (rz_f Z d 34 [.ref a, v1, v2] (rz_mk h ι, w)) (fun v σ' => rg Z d rx_m37 15 L (v.toList ++ []) σ') := rz_cv (pc := 12) (n := 2) (mi := 34) (S := v2 :: v1 :: .ref a :: []) (rest := []) rfl rfl (Nat.le_of_ble_eq_true rfl) (Nat.le_of_ble_eq_true rfl) c
theorem g37_15 : rg Z d rx_m37 15 L S (rz_mk h ι, w) = rg Z d rx_m37 16 L (.int 0 :: S) (rz_mk h ι, w) := rz_s1 fun _ => rfl
theorem g37_16 : rg Z d rx_m37 16 [l0, l1, l2, l3, l4, some (.int z), l6] (.int x :: S) (rz_mk h ι, w) = rg Z d rx_m37 18 [l0, l1, l2, l3, l4, some (.int z), some (.int x)] S (rz_mk h ι, w) := rz_s1 fun _ => rfl
theorem g37_18 : rg Z d rx_m37 18 [l0, l1, l2, l3, l4, l5, some (.int x)] S (rz_mk h ι, w) = rg Z d rx_m37 20 [l0, l1, l2, l3, l4, l5, some (.int x)] (.int x :: S) (rz_mk h ι, w) := rz_s1 fun _ => rfl
theorem g37_20 : rg Z d rx_m37 20 [some (.ref a), l1, l2, l3, l4, l5, l6] S (rz_mk h ι, w) = rg Z d rx_m37 21 [some (.ref a), l1, l2, l3, l4, l5, l6] (.ref a :: S) (rz_mk h ι, w) := rz_s1 fun _ => rfl
theorem g37_21 (c : rz_fI h a 4 3) : rg Z d rx_m37 21 L (.ref a :: S) (rz_mk h ι, w) = rg Z d rx_m37 24 L (.int (ι a 3) :: S) (rz_mk h ι, w) := rz_gI rfl (by decide) c
theorem g37_24 : rg Z d rx_m37 24 L (.int y :: .int x :: S) (rz_mk h ι, w) = if x < y then rg Z d rx_m37 27 L S (rz_mk h ι, w) else rg Z d rx_m37 85 L S (rz_mk h ι, w) := rz_if2 (pc := 24) (t := 85) (off := 61) (cc := .ge) (by decide) rfl
theorem g37_27 : rg Z d rx_m37 27 [l0, l1, l2, l3, l4, l5, some (.int x)] S (rz_mk h ι, w) = rg Z d rx_m37 29 [l0, l1, l2, l3, l4, l5, some (.int x)] (.int x :: S) (rz_mk h ι, w) := rz_s1 fun _ => rfl
theorem g37_29 : rg Z d rx_m37 29 [some (.ref a), l1, l2, l3, l4, l5, l6] S (rz_mk h ι, w) = rg Z d rx_m37 30 [some (.ref a), l1, l2, l3, l4, l5, l6] (.ref a :: S) (rz_mk h ι, w) := rz_s1 fun _ => rfl
theorem g37_30 (c : rz_fR h a 4 2) : rg Z d rx_m37 30 L (.ref a :: S) (rz_mk h ι, w) = rg Z d rx_m37 33 L (rz_rv h a 2 :: S) (rz_mk h ι, w) := rz_gR rfl (by decide) c
theorem g37_33 (c : rz_ar h a 0) : rg Z d rx_m37 33 L (.ref a :: S) (rz_mk h ι, w) = rg Z d rx_m37 34 L (.int (Int32.ofNat (rz_ln h a)) :: S) (rz_mk h ι, w) := rz_alen (by decide) rfl c
theorem g37_34 : rg Z d rx_m37 34 L (.int y :: .int x :: S) (rz_mk h ι, w) = if x < y then rg Z d rx_m37 37 L S (rz_mk h ι, w) else rg Z d rx_m37 85 L S (rz_mk h ι, w) := rz_if2 (pc := 34) (t := 85) (off := 51) (cc := .ge) (by decide) rfl
theorem g37_37 : rg Z d rx_m37 37 [l0, some (.ref a), l2, l3, l4, l5, l6] S (rz_mk h ι, w) = rg Z d rx_m37 38 [l0, some (.ref a), l2, l3, l4, l5, l6] (.ref a :: S) (rz_mk h ι, w) := rz_s1 fun _ => rfl
theorem g37_38 : rg Z d rx_m37 38 [l0, l1, l2, some (.int x), l4, l5, l6] S (rz_mk h ι, w) = rg Z d rx_m37 39 [l0, l1, l2, some (.int x), l4, l5, l6] (.int x :: S) (rz_mk h ι, w) := rz_s1 fun _ => rfl
theorem g37_39 (c : rz_oc h a 8) : rg Z d rx_m37 39 L (v1 :: .ref a :: []) (rz_mk h ι, w) = rz_k true (rz_f Z d 67 [.ref a, v1] (rz_mk h ι, w)) (fun v σ' => rg Z d rx_m37 42 L (v.toList ++ []) σ') := rz_cv (pc := 39) (n := 1) (mi := 67) (S := v1 :: .ref a :: []) (rest := []) rfl rfl (Nat.le_of_ble_eq_true rfl) (Nat.le_of_ble_eq_true rfl) c
theorem g37_42 : rg Z d rx_m37 42 L (.int x :: S) (rz_mk h ι, w) = if x = 0 then rg Z d rx_m37 79 L S (rz_mk h ι, w) else rg Z d rx_m37 45 L S (rz_mk h ι, w) := rz_if1 (pc := 42) (t := 79) (off := 37) (cc := .eq) (by decide) rfl
theorem g37_45 : rg Z d rx_m37 45 [some (.ref a), l1, l2, l3, l4, l5, l6] S (rz_mk h ι, w) = rg Z d rx_m37 46 [some (.ref a), l1, l2, l3, l4, l5, l6] (.ref a :: S) (rz_mk h ι, w) := rz_s1 fun _ => rfl
theorem g37_46 : rg Z d rx_m37 46 [l0, l1, some (.ref a), l3, l4, l5, l6] S (rz_mk h ι, w) = rg Z d rx_m37 47 [l0, l1, some (.ref a), l3, l4, l5, l6] (.ref a :: S) (rz_mk h ι, w) := rz_s1 fun _ => rfl
theorem g37_47 : rg Z d rx_m37 47 [some (.ref a), l1, l2, l3, l4, l5, l6] S (rz_mk h ι, w) = rg Z d rx_m37 48 [some (.ref a), l1, l2, l3, l4, l5, l6] (.ref a :: S) (rz_mk h ι, w) := rz_s1 fun _ => rfl
theorem g37_48 (c : rz_fR h a 4 2) : rg Z d rx_m37 48 L (.ref a :: S) (rz_mk h ι, w) = rg Z d rx_m37 51 L (rz_rv h a 2 :: S) (rz_mk h ι, w) := rz_gR rfl (by decide) c
theorem g37_51 : rg Z d rx_m37 51 [l0, l1, l2, l3, l4, l5, some (.int x)] S (rz_mk h ι, w) = rg Z d rx_m37 53 [l0, l1, l2, l3, l4, l5, some (.int x)] (.int x :: S) (rz_mk h ι, w) := rz_s1 fun _ => rfl
theorem g37_53 (c : rz_ar h a 0) (hi : rz_ix x (rz_ln h a)) : rg Z d rx_m37 53 L (.int x :: .ref a :: S) (rz_mk h ι, w) = rg Z d rx_m37 54 L (.int (ι a x.toNatClampNeg) :: S) (rz_mk h ι, w) := rz_iald rfl c hi
theorem g37_54 (c : rz_oc h a 4) : rg Z d rx_m37 54 L (v2 :: v1 :: .ref a :: []) (rz_mk h ι, w) = rz_k true (rz_f Z d 35 [.ref a, v1, v2] (rz_mk h ι, w)) (fun v σ' => rg Z d rx_m37 57 L (v.toList ++ []) σ') := rz_cv (pc := 54) (n := 2) (mi := 35) (S := v2 :: v1 :: .ref a :: []) (rest := []) rfl rfl (Nat.le_of_ble_eq_true rfl) (Nat.le_of_ble_eq_true rfl) c
theorem g37_57 : rg Z d rx_m37 57 [l0, l1, l2, l3, some (.int x), l5, l6] S (rz_mk h ι, w) = rg Z d rx_m37 59 [l0, l1, l2, l3, some (.int x), l5, l6] (.int x :: S) (rz_mk h ι, w) := rz_s1 fun _ => rfl
theorem g37_59 : rg Z d rx_m37 59 L (.int y :: .int x :: S) (rz_mk h ι, w) = if x = y then rg Z d rx_m37 62 L S (rz_mk h ι, w) else rg Z d rx_m37 79 L S (rz_mk h ι, w) := rz_if2 (pc := 59) (t := 79) (off := 20) (cc := .ne) (by decide) rfl
theorem g37_62 : rg Z d rx_m37 62 [some (.ref a), l1, l2, l3, l4, l5, l6] S (rz_mk h ι, w) = rg Z d rx_m37 63 [some (.ref a), l1, l2, l3, l4, l5, l6] (.ref a :: S) (rz_mk h ι, w) := rz_s1 fun _ => rfl
theorem g37_63 (c : rz_fR h a 4 2) : rg Z d rx_m37 63 L (.ref a :: S) (rz_mk h ι, w) = rg Z d rx_m37 66 L (rz_rv h a 2 :: S) (rz_mk h ι, w) := rz_gR rfl (by decide) c
theorem g37_66 : rg Z d rx_m37 66 [l0, l1, l2, l3, l4, some (.int x), l6] S (rz_mk h ι, w) = rg Z d rx_m37 68 [l0, l1, l2, l3, l4, some (.int x), l6] (.int x :: S) (rz_mk h ι, w) := rz_s1 fun _ => rfl
theorem g37_68 : rg Z d rx_m37 68 [some (.ref a), l1, l2, l3, l4, l5, l6] S (rz_mk h ι, w) = rg Z d rx_m37 69 [some (.ref a), l1, l2, l3, l4, l5, l6] (.ref a :: S) (rz_mk h ι, w) := rz_s1 fun _ => rfl
theorem g37_69 (c : rz_fR h a 4 2) : rg Z d rx_m37 69 L (.ref a :: S) (rz_mk h ι, w) = rg Z d rx_m37 72 L (rz_rv h a 2 :: S) (rz_mk h ι, w) := rz_gR rfl (by decide) c
theorem g37_72 : rg Z d rx_m37 72 [l0, l1, l2, l3, l4, l5, some (.int x)] S (rz_mk h ι, w) = rg Z d rx_m37 74 [l0, l1, l2, l3, l4, l5, some (.int x)] (.int x :: S) (rz_mk h ι, w) := rz_s1 fun _ => rfl
theorem g37_74 (c : rz_ar h a 0) (hi : rz_ix x (rz_ln h a)) : rg Z d rx_m37 74 L (.int x :: .ref a :: S) (rz_mk h ι, w) = rg Z d rx_m37 75 L (.int (ι a x.toNatClampNeg) :: S) (rz_mk h ι, w) := rz_iald rfl c hi
theorem g37_75 (c : rz_ar h a 0) (hi : rz_ix x (rz_ln h a)) (hz : Z.2.1 ≤ a) : rg Z d rx_m37 75 L (.int y :: .int x :: .ref a :: S) (rz_mk h ι, w) = rg Z d rx_m37 76 L S (rz_mk h (rz_up ι a x.toNatClampNeg y), w) := rz_iast rfl c hi hz
theorem g37_76 : rg Z d rx_m37 76 [l0, l1, l2, l3, some (.int z), some (.int x), l6] S (rz_mk h ι, w) = rg Z d rx_m37 79 [l0, l1, l2, l3, some (.int z), some (.int (x + 1)), l6] S (rz_mk h ι, w) := rz_s1 fun _ => rfl
theorem g37_79 : rg Z d rx_m37 79 [l0, l1, l2, l3, l4, some (.int z), some (.int x)] S (rz_mk h ι, w) = rg Z d rx_m37 82 [l0, l1, l2, l3, l4, some (.int z), some (.int (x + 1))] S (rz_mk h ι, w) := rz_s1 fun _ => rfl
theorem g37_82 : rg Z d rx_m37 82 L S (rz_mk h ι, w) = rg Z d rx_m37 18 L S (rz_mk h ι, w) := rz_s1 fun _ => rfl
theorem g37_85 : rg Z d rx_m37 85 [some (.ref a), l1, l2, l3, l4, l5, l6] S (rz_mk h ι, w) = rg Z d rx_m37 86 [some (.ref a), l1, l2, l3, l4, l5, l6] (.ref a :: S) (rz_mk h ι, w) := rz_s1 fun _ => rfl
theorem g37_86 : rg Z d rx_m37 86 [l0, l1, l2, l3, l4, some (.int x), l6] S (rz_mk h ι, w) = rg Z d rx_m37 88 [l0, l1, l2, l3, l4, some (.int x), l6] (.int x :: S) (rz_mk h ι, w) := rz_s1 fun _ => rfl
theorem g37_88 (c : rz_fI h a 4 3) (hz : Z.2.1 ≤ a) : rg Z d rx_m37 88 L (.int x :: .ref a :: S) (rz_mk h ι, w) = rg Z d rx_m37 91 L S (rz_mk h (rz_up ι a 3 x), w) := rz_pI rfl c hz
theorem g37_91 : rg Z d rx_m37 91 L [] (rz_mk h ι, w) = some (.inl none, (rz_mk h ι, w)) := rz_r1 fun _ => rfl
theorem e37 : rz_f Z (d + 1) 37 [.ref t0, .ref t1, .ref t2, .int s3, .int s4] σ = rg Z d rx_m37 0 [some (.ref t0), some (.ref t1), some (.ref t2), some (.int s3), some (.int s4), none, none] [] σ := rz_f_eq rfl (Nat.le_of_ble_eq_true rfl)
theorem g38_0 : rg Z d rx_m38 0 [some (.ref a), l1, l2, l3, l4, l5] S (rz_mk h ι, w) = rg Z d rx_m38 1 [some (.ref a), l1, l2, l3, l4, l5] (.ref a :: S) (rz_mk h ι, w) := rz_s1 fun _ => rfl
theorem g38_1 : rg Z d rx_m38 1 L S (rz_mk h ι, w) = rg Z d rx_m38 2 L (.int (-1) :: S) (rz_mk h ι, w) := rz_s1 fun _ => rfl
theorem g38_2 (c : rz_fI h a 4 4) (hz : Z.2.1 ≤ a) : rg Z d rx_m38 2 L (.int x :: .ref a :: S) (rz_mk h ι, w) = rg Z d rx_m38 5 L S (rz_mk h (rz_up ι a 4 x), w) := rz_pI rfl c hz
theorem g38_5 : rg Z d rx_m38 5 [some (.ref a), l1, l2, l3, l4, l5] S (rz_mk h ι, w) = rg Z d rx_m38 6 [some (.ref a), l1, l2, l3, l4, l5] (.ref a :: S) (rz_mk h ι, w) := rz_s1 fun _ => rfl
theorem g38_6 : rg Z d rx_m38 6 L S (rz_mk h ι, w) = rg Z d rx_m38 7 L (.int (-1) :: S) (rz_mk h ι, w) := rz_s1 fun _ => rfl
theorem g38_7 (c : rz_fI h a 4 5) (hz : Z.2.1 ≤ a) : rg Z d rx_m38 7 L (.int x :: .ref a :: S) (rz_mk h ι, w) = rg Z d rx_m38 10 L S (rz_mk h (rz_up ι a 5 x), w) := rz_pI rfl c hz
theorem g38_10 : rg Z d rx_m38 10 L S (rz_mk h ι, w) = rg Z d rx_m38 11 L (.int 0 :: S) (rz_mk h ι, w) := rz_s1 fun _ => rfl
theorem g38_11 : rg Z d rx_m38 11 [l0, l1, l2, some (.ref b), l4, l5] (.int x :: S) (rz_mk h ι, w) = rg Z d rx_m38 13 [l0, l1, l2, some (.ref b), some (.int x), l5] S (rz_mk h ι, w) := rz_s1 fun _ => rfl
theorem g38_13 : rg Z d rx_m38 13 [l0, l1, l2, l3, some (.int x), l5] S (rz_mk h ι, w) = rg Z d rx_m38 15 [l0, l1, l2, l3, some (.int x), l5] (.int x :: S) (rz_mk h ι, w) := rz_s1 fun _ => rfl
theorem g38_15 : rg Z d rx_m38 15 [l0, some (.ref a), l2, l3, l4, l5] S (rz_mk h ι, w) = rg Z d rx_m38 16 [l0, some (.ref a), l2, l3, l4, l5] (.ref a :: S) (rz_mk h ι, w) := rz_s1 fun _ => rfl
theorem g38_16 (c : rz_fI h a 8 3) : rg Z d rx_m38 16 L (.ref a :: S) (rz_mk h ι, w) = rg Z d rx_m38 19 L (.int (ι a 3) :: S) (rz_mk h ι, w) := rz_gI rfl (by decide) c
theorem g38_19 : rg Z d rx_m38 19 L (.int y :: .int x :: S) (rz_mk h ι, w) = if x < y then rg Z d rx_m38 22 L S (rz_mk h ι, w) else rg Z d rx_m38 86 L S (rz_mk h ι, w) := rz_if2 (pc := 19) (t := 86) (off := 67) (cc := .ge) (by decide) rfl
theorem g38_22 : rg Z d rx_m38 22 [l0, l1, l2, some (.ref a), l4, l5] S (rz_mk h ι, w) = rg Z d rx_m38 23 [l0, l1, l2, some (.ref a), l4, l5] (.ref a :: S) (rz_mk h ι, w) := rz_s1 fun _ => rfl
theorem g38_23 : rg Z d rx_m38 23 [l0, l1, l2, l3, some (.int x), l5] S (rz_mk h ι, w) = rg Z d rx_m38 25 [l0, l1, l2, l3, some (.int x), l5] (.int x :: S) (rz_mk h ι, w) := rz_s1 fun _ => rfl
theorem g38_25 (c : rz_oc h a 0) : rg Z d rx_m38 25 L (v1 :: .ref a :: []) (rz_mk h ι, w) = rz_k true (rz_f Z d 2 [.ref a, v1] (rz_mk h ι, w)) (fun v σ' => rg Z d rx_m38 28 L (v.toList ++ []) σ') := rz_cv (pc := 25) (n := 1) (mi := 2) (S := v1 :: .ref a :: []) (rest := []) rfl rfl (Nat.le_of_ble_eq_true rfl) (Nat.le_of_ble_eq_true rfl) c
theorem g38_28 : rg Z d rx_m38 28 L (.int x :: S) (rz_mk h ι, w) = if x = 0 then rg Z d rx_m38 35 L S (rz_mk h ι, w) else rg Z d rx_m38 31 L S (rz_mk h ι, w) := rz_if1 (pc := 28) (t := 35) (off := 7) (cc := .eq) (by decide) rfl
theorem g38_31 : rg Z d rx_m38 31 L S (rz_mk h ι, w) = rg Z d rx_m38 32 L (.int (-1) :: S) (rz_mk h ι, w) := rz_s1 fun _ => rfl
theorem g38_32 : rg Z d rx_m38 32 L S (rz_mk h ι, w) = rg Z d rx_m38 43 L S (rz_mk h ι, w) := rz_s1 fun _ => rfl
theorem g38_35 : rg Z d rx_m38 35 [some (.ref a), l1, l2, l3, l4, l5] S (rz_mk h ι, w) = rg Z d rx_m38 36 [some (.ref a), l1, l2, l3, l4, l5] (.ref a :: S) (rz_mk h ι, w) := rz_s1 fun _ => rfl
theorem g38_36 : rg Z d rx_m38 36 [l0, some (.ref a), l2, l3, l4, l5] S (rz_mk h ι, w) = rg Z d rx_m38 37 [l0, some (.ref a), l2, l3, l4, l5] (.ref a :: S) (rz_mk h ι, w) := rz_s1 fun _ => rfl
theorem g38_37 : rg Z d rx_m38 37 [l0, l1, some (.ref a), l3, l4, l5] S (rz_mk h ι, w) = rg Z d rx_m38 38 [l0, l1, some (.ref a), l3, l4, l5] (.ref a :: S) (rz_mk h ι, w) := rz_s1 fun _ => rfl
theorem g38_38 : rg Z d rx_m38 38 [l0, l1, l2, l3, some (.int x), l5] S (rz_mk h ι, w) = rg Z d rx_m38 40 [l0, l1, l2, l3, some (.int x), l5] (.int x :: S) (rz_mk h ι, w) := rz_s1 fun _ => rfl
theorem g38_40 (c : rz_oc h a 4) : rg Z d rx_m38 40 L (v3 :: v2 :: v1 :: .ref a :: []) (rz_mk h ι, w) = rz_k true (rz_f Z d 39 [.ref a, v1, v2, v3] (rz_mk h ι, w)) (fun v σ' => rg Z d rx_m38 43 L (v.toList ++ []) σ') := rz_cv (pc := 40) (n := 3) (mi := 39) (S := v3 :: v2 :: v1 :: .ref a :: []) (rest := []) rfl rfl (Nat.le_of_ble_eq_true rfl) (Nat.le_of_ble_eq_true rfl) c
theorem g38_43 : rg Z d rx_m38 43 [l0, l1, l2, l3, some (.int z), l5] (.int x :: S) (rz_mk h ι, w) = rg Z d rx_m38 45 [l0, l1, l2, l3, some (.int z), some (.int x)] S (rz_mk h ι, w) := rz_s1 fun _ => rfl
theorem g38_45 : rg Z d rx_m38 45 [l0, l1, l2, l3, l4, some (.int x)] S (rz_mk h ι, w) = rg Z d rx_m38 47 [l0, l1, l2, l3, l4, some (.int x)] (.int x :: S) (rz_mk h ι, w) := rz_s1 fun _ => rfl
theorem g38_47 : rg Z d rx_m38 47 L S (rz_mk h ι, w) = rg Z d rx_m38 48 L (.int (-1) :: S) (rz_mk h ι, w) := rz_s1 fun _ => rfl
theorem g38_48 : rg Z d rx_m38 48 L (.int y :: .int x :: S) (rz_mk h ι, w) = if x = y then rg Z d rx_m38 80 L S (rz_mk h ι, w) else rg Z d rx_m38 51 L S (rz_mk h ι, w) := rz_if2 (pc := 48) (t := 80) (off := 32) (cc := .eq) (by decide) rfl
theorem g38_51 : rg Z d rx_m38 51 [some (.ref a), l1, l2, l3, l4, l5] S (rz_mk h ι, w) = rg Z d rx_m38 52 [some (.ref a), l1, l2, l3, l4, l5] (.ref a :: S) (rz_mk h ι, w) := rz_s1 fun _ => rfl
theorem g38_52 (c : rz_fI h a 4 4) : rg Z d rx_m38 52 L (.ref a :: S) (rz_mk h ι, w) = rg Z d rx_m38 55 L (.int (ι a 4) :: S) (rz_mk h ι, w) := rz_gI rfl (by decide) c
theorem g38_55 : rg Z d rx_m38 55 L S (rz_mk h ι, w) = rg Z d rx_m38 56 L (.int (-1) :: S) (rz_mk h ι, w) := rz_s1 fun _ => rfl
theorem g38_56 : rg Z d rx_m38 56 L (.int y :: .int x :: S) (rz_mk h ι, w) = if x = y then rg Z d rx_m38 68 L S (rz_mk h ι, w) else rg Z d rx_m38 59 L S (rz_mk h ι, w) := rz_if2 (pc := 56) (t := 68) (off := 12) (cc := .eq) (by decide) rfl
theorem g38_59 : rg Z d rx_m38 59 [l0, l1, l2, l3, l4, some (.int x)] S (rz_mk h ι, w) = rg Z d rx_m38 61 [l0, l1, l2, l3, l4, some (.int x)] (.int x :: S) (rz_mk h ι, w) := rz_s1 fun _ => rfl
theorem g38_61 : rg Z d rx_m38 61 [some (.ref a), l1, l2, l3, l4, l5] S (rz_mk h ι, w) = rg Z d rx_m38 62 [some (.ref a), l1, l2, l3, l4, l5] (.ref a :: S) (rz_mk h ι, w) := rz_s1 fun _ => rfl
theorem g38_62 (c : rz_fI h a 4 5) : rg Z d rx_m38 62 L (.ref a :: S) (rz_mk h ι, w) = rg Z d rx_m38 65 L (.int (ι a 5) :: S) (rz_mk h ι, w) := rz_gI rfl (by decide) c
theorem g38_65 : rg Z d rx_m38 65 L (.int y :: .int x :: S) (rz_mk h ι, w) = if x < y then rg Z d rx_m38 68 L S (rz_mk h ι, w) else rg Z d rx_m38 80 L S (rz_mk h ι, w) := rz_if2 (pc := 65) (t := 80) (off := 15) (cc := .ge) (by decide) rfl
theorem g38_68 : rg Z d rx_m38 68 [some (.ref a), l1, l2, l3, l4, l5] S (rz_mk h ι, w) = rg Z d rx_m38 69 [some (.ref a), l1, l2, l3, l4, l5] (.ref a :: S) (rz_mk h ι, w) := rz_s1 fun _ => rfl
theorem g38_69 : rg Z d rx_m38 69 [l0, l1, l2, l3, some (.int x), l5] S (rz_mk h ι, w) = rg Z d rx_m38 71 [l0, l1, l2, l3, some (.int x), l5] (.int x :: S) (rz_mk h ι, w) := rz_s1 fun _ => rfl
theorem g38_71 (c : rz_fI h a 4 4) (hz : Z.2.1 ≤ a) : rg Z d rx_m38 71 L (.int x :: .ref a :: S) (rz_mk h ι, w) = rg Z d rx_m38 74 L S (rz_mk h (rz_up ι a 4 x), w) := rz_pI rfl c hz
theorem g38_74 : rg Z d rx_m38 74 [some (.ref a), l1, l2, l3, l4, l5] S (rz_mk h ι, w) = rg Z d rx_m38 75 [some (.ref a), l1, l2, l3, l4, l5] (.ref a :: S) (rz_mk h ι, w) := rz_s1 fun _ => rfl
theorem g38_75 : rg Z d rx_m38 75 [l0, l1, l2, l3, l4, some (.int x)] S (rz_mk h ι, w) = rg Z d rx_m38 77 [l0, l1, l2, l3, l4, some (.int x)] (.int x :: S) (rz_mk h ι, w) := rz_s1 fun _ => rfl
theorem g38_77 (c : rz_fI h a 4 5) (hz : Z.2.1 ≤ a) : rg Z d rx_m38 77 L (.int x :: .ref a :: S) (rz_mk h ι, w) = rg Z d rx_m38 80 L S (rz_mk h (rz_up ι a 5 x), w) := rz_pI rfl c hz
theorem g38_80 : rg Z d rx_m38 80 [l0, l1, l2, some (.ref b), some (.int x), l5] S (rz_mk h ι, w) = rg Z d rx_m38 83 [l0, l1, l2, some (.ref b), some (.int (x + 1)), l5] S (rz_mk h ι, w) := rz_s1 fun _ => rfl
theorem g38_83 : rg Z d rx_m38 83 L S (rz_mk h ι, w) = rg Z d rx_m38 13 L S (rz_mk h ι, w) := rz_s1 fun _ => rfl
theorem g38_86 : rg Z d rx_m38 86 L [] (rz_mk h ι, w) = some (.inl none, (rz_mk h ι, w)) := rz_r1 fun _ => rfl
theorem e38 : rz_f Z (d + 1) 38 [.ref t0, .ref t1, .ref t2, .ref t3] σ = rg Z d rx_m38 0 [some (.ref t0), some (.ref t1), some (.ref t2), some (.ref t3), none, none] [] σ := rz_f_eq rfl (Nat.le_of_ble_eq_true rfl)
end RZG
