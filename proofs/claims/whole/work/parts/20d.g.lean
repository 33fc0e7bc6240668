/-! each instruction, one step (written by program) -/
section RZG
variable {Z : rx_Z} {d : Nat} {S : List Value} {L : rx_L} {σ : rx_S} {h : Nat → Option rx_E} {ι : Nat → Nat → Int32} {w : Nat × Nat} {a b t0 t1 t2 t3 t4 t5 t6 t7 t8 : Nat} {x y z s0 s1 s2 s3 s4 s5 s6 s7 s8 s9 s10 : Int32} {p q q0 q1 q2 q3 : Int64} {v v1 v2 v3 v4 v5 v6 v7 v8 v9 v10 : Value} {l0 l1 l2 l3 l4 l5 l6 l7 l8 l9 l10 l11 l12 l13 l14 : Option Value}
theorem g132_0 : rg Z d rx_m132 0 [some (.ref a), l1, l2] S (rz_mk h ι, w) = rg Z d rx_m132 1 [some (.ref a), l1, l2] (.ref a :: S) (rz_mk h ι, w) := rz_s1 fun _ => rfl
theorem g132_1 : rg Z d rx_m132 1 [l0, some (.int x), l2] S (rz_mk h ι, w) = rg Z d rx_m132 2 [l0, some (.int x), l2] (.int x :: S) (rz_mk h ι, w) := rz_s1 fun _ => rfl
theorem g132_2 : rg Z d rx_m132 2 L S (rz_mk h ι, w) = rg Z d rx_m132 3 L (.int 0 :: S) (rz_mk h ι, w) := rz_s1 fun _ => rfl
theorem g132_3 : rg Z d rx_m132 3 L S (rz_mk h ι, w) = rg Z d rx_m132 5 L (.int 8 :: S) (rz_mk h ι, w) := rz_s1 fun _ => rfl
theorem g132_5 : rg Z d rx_m132 5 L (v3 :: v2 :: v1 :: [.ref t0]) (rz_mk h ι, w) = rz_k true (rz_f Z d 161 [v1, v2, v3] (rz_mk h ι, w)) (fun v σ' => rg Z d rx_m132 8 L (v.toList ++ [.ref t0]) σ') := rz_cs (pc := 5) (n := 3) (mi := 161) (S := v3 :: v2 :: v1 :: [.ref t0]) (rest := [.ref t0]) rfl rfl (Nat.le_of_ble_eq_true rfl) (Nat.le_of_ble_eq_true rfl)
theorem g132_8 (c : rz_oc h a 11) : rg Z d rx_m132 8 L (v1 :: .ref a :: []) (rz_mk h ι, w) = rz_k true (rz_f Z d 162 [.ref a, v1] (rz_mk h ι, w)) (fun v σ' => rg Z d rx_m132 11 L (v.toList ++ []) σ') := rz_cv (pc := 8) (n := 1) (mi := 162) (S := v1 :: .ref a :: []) (rest := []) rfl rfl (Nat.le_of_ble_eq_true rfl) (Nat.le_of_ble_eq_true rfl) c
theorem g132_11 : rg Z d rx_m132 11 [some (.ref a), l1, l2] S (rz_mk h ι, w) = rg Z d rx_m132 12 [some (.ref a), l1, l2] (.ref a :: S) (rz_mk h ι, w) := rz_s1 fun _ => rfl
theorem g132_12 (c : rz_fR h a 11 7) : rg Z d rx_m132 12 L (.ref a :: S) (rz_mk h ι, w) = rg Z d rx_m132 15 L (rz_rv h a 7 :: S) (rz_mk h ι, w) := rz_gR rfl (by decide) c
theorem g132_15 : rg Z d rx_m132 15 [some (.ref a), l1, l2] S (rz_mk h ι, w) = rg Z d rx_m132 16 [some (.ref a), l1, l2] (.ref a :: S) (rz_mk h ι, w) := rz_s1 fun _ => rfl
theorem g132_16 (c : rz_fR h a 11 11) : rg Z d rx_m132 16 L (.ref a :: S) (rz_mk h ι, w) = rg Z d rx_m132 19 L (rz_rv h a 11 :: S) (rz_mk h ι, w) := rz_gR rfl (by decide) c
theorem g132_19 (c : rz_oc h a 8) : rg Z d rx_m132 19 L (v1 :: .ref a :: []) (rz_mk h ι, w) = rz_k true (rz_f Z d 66 [.ref a, v1] (rz_mk h ι, w)) (fun v σ' => rg Z d rx_m132 22 L (v.toList ++ []) σ') := rz_cv (pc := 19) (n := 1) (mi := 66) (S := v1 :: .ref a :: []) (rest := []) rfl rfl (Nat.le_of_ble_eq_true rfl) (Nat.le_of_ble_eq_true rfl) c
theorem g132_22 : rg Z d rx_m132 22 L S (rz_mk h ι, w) = rg Z d rx_m132 23 L (.int 0 :: S) (rz_mk h ι, w) := rz_s1 fun _ => rfl
theorem g132_23 : rg Z d rx_m132 23 [l0, some (.int z), l2] (.int x :: S) (rz_mk h ι, w) = rg Z d rx_m132 24 [l0, some (.int z), some (.int x)] S (rz_mk h ι, w) := rz_s1 fun _ => rfl
theorem g132_24 : rg Z d rx_m132 24 [l0, l1, some (.int x)] S (rz_mk h ι, w) = rg Z d rx_m132 25 [l0, l1, some (.int x)] (.int x :: S) (rz_mk h ι, w) := rz_s1 fun _ => rfl
theorem g132_25 : rg Z d rx_m132 25 [l0, some (.int x), l2] S (rz_mk h ι, w) = rg Z d rx_m132 26 [l0, some (.int x), l2] (.int x :: S) (rz_mk h ι, w) := rz_s1 fun _ => rfl
theorem g132_26 : rg Z d rx_m132 26 L (.int y :: .int x :: S) (rz_mk h ι, w) = if x < y then rg Z d rx_m132 29 L S (rz_mk h ι, w) else rg Z d rx_m132 54 L S (rz_mk h ι, w) := rz_if2 (pc := 26) (t := 54) (off := 28) (cc := .ge) (by decide) rfl
theorem g132_29 : rg Z d rx_m132 29 [some (.ref a), l1, l2] S (rz_mk h ι, w) = rg Z d rx_m132 30 [some (.ref a), l1, l2] (.ref a :: S) (rz_mk h ι, w) := rz_s1 fun _ => rfl
theorem g132_30 (c : rz_fR h a 11 7) : rg Z d rx_m132 30 L (.ref a :: S) (rz_mk h ι, w) = rg Z d rx_m132 33 L (rz_rv h a 7 :: S) (rz_mk h ι, w) := rz_gR rfl (by decide) c
theorem g132_33 : rg Z d rx_m132 33 [some (.ref a), l1, l2] S (rz_mk h ι, w) = rg Z d rx_m132 34 [some (.ref a), l1, l2] (.ref a :: S) (rz_mk h ι, w) := rz_s1 fun _ => rfl
theorem g132_34 (c : rz_fR h a 11 7) : rg Z d rx_m132 34 L (.ref a :: S) (rz_mk h ι, w) = rg Z d rx_m132 37 L (rz_rv h a 7 :: S) (rz_mk h ι, w) := rz_gR rfl (by decide) c
theorem g132_37 (c : rz_fI h a 8 5) : rg Z d rx_m132 37 L (.ref a :: S) (rz_mk h ι, w) = rg Z d rx_m132 40 L (.int (ι a 5) :: S) (rz_mk h ι, w) := rz_gI rfl (by decide) c
theorem g132_40 : rg Z d rx_m132 40 [some (.ref a), l1, l2] S (rz_mk h ι, w) = rg Z d rx_m132 41 [some (.ref a), l1, l2] (.ref a :: S) (rz_mk h ι, w) := rz_s1 fun _ => rfl
theorem g132_41 (c : rz_fR h a 11 10) : rg Z d rx_m132 41 L (.ref a :: S) (rz_mk h ι, w) = rg Z d rx_m132 44 L (rz_rv h a 10 :: S) (rz_mk h ι, w) := rz_gR rfl (by decide) c
theorem g132_44 (c : rz_oc h a 8) : rg Z d rx_m132 44 L (v2 :: v1 :: .ref a :: []) (rz_mk h ι, w) = rz_k true (rz_f Z d 84 [.ref a, v1, v2] (rz_mk h ι, w)) (fun v σ' => rg Z d rx_m132 47 L (v.toList ++ []) σ') := rz_cv (pc := 44) (n := 2) (mi := 84) (S := v2 :: v1 :: .ref a :: []) (rest := []) rfl rfl (Nat.le_of_ble_eq_true rfl) (Nat.le_of_ble_eq_true rfl) c
theorem g132_47 : rg Z d rx_m132 47 L (.int x :: S) (rz_mk h ι, w) = rg Z d rx_m132 48 L S (rz_mk h ι, w) := rz_s1 fun _ => rfl
theorem g132_48 : rg Z d rx_m132 48 [l0, some (.int z), some (.int x)] S (rz_mk h ι, w) = rg Z d rx_m132 51 [l0, some (.int z), some (.int (x + 1))] S (rz_mk h ι, w) := rz_s1 fun _ => rfl
theorem g132_51 : rg Z d rx_m132 51 L S (rz_mk h ι, w) = rg Z d rx_m132 24 L S (rz_mk h ι, w) := rz_s1 fun _ => rfl
theorem g132_54 : rg Z d rx_m132 54 [some (.ref a), l1, l2] S (rz_mk h ι, w) = rg Z d rx_m132 55 [some (.ref a), l1, l2] (.ref a :: S) (rz_mk h ι, w) := rz_s1 fun _ => rfl
theorem g132_55 (c : rz_fR h a 11 7) : rg Z d rx_m132 55 L (.ref a :: S) (rz_mk h ι, w) = rg Z d rx_m132 58 L (rz_rv h a 7 :: S) (rz_mk h ι, w) := rz_gR rfl (by decide) c
theorem g132_58 (c : rz_fI h a 8 5) : rg Z d rx_m132 58 L (.ref a :: S) (rz_mk h ι, w) = rg Z d rx_m132 61 L (.int (ι a 5) :: S) (rz_mk h ι, w) := rz_gI rfl (by decide) c
theorem g132_61 : rg Z d rx_m132 61 L [.int x] (rz_mk h ι, w) = some (.inl (some (.int x)), (rz_mk h ι, w)) := rz_reti rfl rfl rfl
theorem e132 : rz_f Z (d + 1) 132 [.ref t0, .int s1] σ = rg Z d rx_m132 0 [some (.ref t0), some (.int s1), none] [] σ := rz_f_eq rfl (Nat.le_of_ble_eq_true rfl)
theorem g133_0 : rg Z d rx_m133 0 [some (.ref a), l1, l2] S (rz_mk h ι, w) = rg Z d rx_m133 1 [some (.ref a), l1, l2] (.ref a :: S) (rz_mk h ι, w) := rz_s1 fun _ => rfl
theorem g133_1 : rg Z d rx_m133 1 [l0, some (.int x), l2] S (rz_mk h ι, w) = rg Z d rx_m133 2 [l0, some (.int x), l2] (.int x :: S) (rz_mk h ι, w) := rz_s1 fun _ => rfl
theorem g133_2 (c : rz_oc h a 11) : rg Z d rx_m133 2 L (v1 :: .ref a :: []) (rz_mk h ι, w) = rz_k true (rz_f Z d 164 [.ref a, v1] (rz_mk h ι, w)) (fun v σ' => rg Z d rx_m133 5 L (v.toList ++ []) σ') := rz_cv (pc := 2) (n := 1) (mi := 164) (S := v1 :: .ref a :: []) (rest := []) rfl rfl (Nat.le_of_ble_eq_true rfl) (Nat.le_of_ble_eq_true rfl) c
theorem g133_5 : rg Z d rx_m133 5 [some (.ref a), l1, l2] S (rz_mk h ι, w) = rg Z d rx_m133 6 [some (.ref a), l1, l2] (.ref a :: S) (rz_mk h ι, w) := rz_s1 fun _ => rfl
theorem g133_6 : rg Z d rx_m133 6 [l0, l1, some (.int x)] S (rz_mk h ι, w) = rg Z d rx_m133 7 [l0, l1, some (.int x)] (.int x :: S) (rz_mk h ι, w) := rz_s1 fun _ => rfl
theorem g133_7 : rg Z d rx_m133 7 L S (rz_mk h ι, w) = rg Z d rx_m133 8 L (.int 0 :: S) (rz_mk h ι, w) := rz_s1 fun _ => rfl
theorem g133_8 : rg Z d rx_m133 8 L S (rz_mk h ι, w) = rg Z d rx_m133 9 L (.int 1 :: S) (rz_mk h ι, w) := rz_s1 fun _ => rfl
theorem g133_9 : rg Z d rx_m133 9 L (v3 :: v2 :: v1 :: [.ref t0]) (rz_mk h ι, w) = rz_k true (rz_f Z d 161 [v1, v2, v3] (rz_mk h ι, w)) (fun v σ' => rg Z d rx_m133 12 L (v.toList ++ [.ref t0]) σ') := rz_cs (pc := 9) (n := 3) (mi := 161) (S := v3 :: v2 :: v1 :: [.ref t0]) (rest := [.ref t0]) rfl rfl (Nat.le_of_ble_eq_true rfl) (Nat.le_of_ble_eq_true rfl)
theorem g133_12 (c : rz_oc h a 11) : rg Z d rx_m133 12 L (v1 :: .ref a :: []) (rz_mk h ι, w) = rz_k true (rz_f Z d 162 [.ref a, v1] (rz_mk h ι, w)) (fun v σ' => rg Z d rx_m133 15 L (v.toList ++ []) σ') := rz_cv (pc := 12) (n := 1) (mi := 162) (S := v1 :: .ref a :: []) (rest := []) rfl rfl (Nat.le_of_ble_eq_true rfl) (Nat.le_of_ble_eq_true rfl) c
theorem g133_15 : rg Z d rx_m133 15 [some (.ref a), l1, l2] S (rz_mk h ι, w) = rg Z d rx_m133 16 [some (.ref a), l1, l2] (.ref a :: S) (rz_mk h ι, w) := rz_s1 fun _ => rfl
theorem g133_16 (c : rz_fR h a 11 6) : rg Z d rx_m133 16 L (.ref a :: S) (rz_mk h ι, w) = rg Z d rx_m133 19 L (rz_rv h a 6 :: S) (rz_mk h ι, w) := rz_gR rfl (by decide) c
theorem g133_19 : rg Z d rx_m133 19 [some (.ref a), l1, l2] S (rz_mk h ι, w) = rg Z d rx_m133 20 [some (.ref a), l1, l2] (.ref a :: S) (rz_mk h ι, w) := rz_s1 fun _ => rfl
theorem g133_20 (c : rz_fR h a 11 11) : rg Z d rx_m133 20 L (.ref a :: S) (rz_mk h ι, w) = rg Z d rx_m133 23 L (rz_rv h a 11 :: S) (rz_mk h ι, w) := rz_gR rfl (by decide) c
theorem g133_23 : rg Z d rx_m133 23 [some (.ref a), l1, l2] S (rz_mk h ι, w) = rg Z d rx_m133 24 [some (.ref a), l1, l2] (.ref a :: S) (rz_mk h ι, w) := rz_s1 fun _ => rfl
theorem g133_24 (c : rz_fR h a 11 10) : rg Z d rx_m133 24 L (.ref a :: S) (rz_mk h ι, w) = rg Z d rx_m133 27 L (rz_rv h a 10 :: S) (rz_mk h ι, w) := rz_gR rfl (by decide) c
theorem g133_27 : rg Z d rx_m133 27 [l0, some (.int x), l2] S (rz_mk h ι, w) = rg Z d rx_m133 28 [l0, some (.int x), l2] (.int x :: S) (rz_mk h ι, w) := rz_s1 fun _ => rfl
theorem g133_28 : rg Z d rx_m133 28 [l0, l1, some (.int x)] S (rz_mk h ι, w) = rg Z d rx_m133 29 [l0, l1, some (.int x)] (.int x :: S) (rz_mk h ι, w) := rz_s1 fun _ => rfl
theorem g133_29 (c : rz_oc h a 4) : rg Z d rx_m133 29 L (v4 :: v3 :: v2 :: v1 :: .ref a :: []) (rz_mk h ι, w) = rz_k true (rz_f Z d 30 [.ref a, v1, v2, v3, v4] (rz_mk h ι, w)) (fun v σ' => rg Z d rx_m133 32 L (v.toList ++ []) σ') := rz_cv (pc := 29) (n := 4) (mi := 30) (S := v4 :: v3 :: v2 :: v1 :: .ref a :: []) (rest := []) rfl rfl (Nat.le_of_ble_eq_true rfl) (Nat.le_of_ble_eq_true rfl) c
theorem g133_32 : rg Z d rx_m133 32 L [.int x] (rz_mk h ι, w) = some (.inl (some (.int x)), (rz_mk h ι, w)) := rz_reti rfl rfl rfl
theorem e133 : rz_f Z (d + 1) 133 [.ref t0, .int s1, .int s2] σ = rg Z d rx_m133 0 [some (.ref t0), some (.int s1), some (.int s2)] [] σ := rz_f_eq rfl (Nat.le_of_ble_eq_true rfl)
theorem g134_0 : rg Z d rx_m134 0 [some (.ref a), l1, l2] S (rz_mk h ι, w) = rg Z d rx_m134 1 [some (.ref a), l1, l2] (.ref a :: S) (rz_mk h ι, w) := rz_s1 fun _ => rfl
theorem g134_1 : rg Z d rx_m134 1 [l0, some (.int x), l2] S (rz_mk h ι, w) = rg Z d rx_m134 2 [l0, some (.int x), l2] (.int x :: S) (rz_mk h ι, w) := rz_s1 fun _ => rfl
theorem g134_2 (c : rz_oc h a 11) : rg Z d rx_m134 2 L (v1 :: .ref a :: []) (rz_mk h ι, w) = rz_k true (rz_f Z d 164 [.ref a, v1] (rz_mk h ι, w)) (fun v σ' => rg Z d rx_m134 5 L (v.toList ++ []) σ') := rz_cv (pc := 2) (n := 1) (mi := 164) (S := v1 :: .ref a :: []) (rest := []) rfl rfl (Nat.le_of_ble_eq_true rfl) (Nat.le_of_ble_eq_true rfl) c
theorem g134_5 : rg Z d rx_m134 5 [some (.ref a), l1, l2] S (rz_mk h ι, w) = rg Z d rx_m134 6 [some (.ref a), l1, l2] (.ref a :: S) (rz_mk h ι, w) := rz_s1 fun _ => rfl
theorem g134_6 : rg Z d rx_m134 6 [l0, l1, some (.int x)] S (rz_mk h ι, w) = rg Z d rx_m134 7 [l0, l1, some (.int x)] (.int x :: S) (rz_mk h ι, w) := rz_s1 fun _ => rfl
theorem g134_7 : rg Z d rx_m134 7 L S (rz_mk h ι, w) = rg Z d rx_m134 8 L (.int 0 :: S) (rz_mk h ι, w) := rz_s1 fun _ => rfl
theorem g134_8 : rg Z d rx_m134 8 L S (rz_mk h ι, w) = rg Z d rx_m134 9 L (.int 1 :: S) (rz_mk h ι, w) := rz_s1 fun _ => rfl
theorem g134_9 : rg Z d rx_m134 9 L (v3 :: v2 :: v1 :: [.ref t0]) (rz_mk h ι, w) = rz_k true (rz_f Z d 161 [v1, v2, v3] (rz_mk h ι, w)) (fun v σ' => rg Z d rx_m134 12 L (v.toList ++ [.ref t0]) σ') := rz_cs (pc := 9) (n := 3) (mi := 161) (S := v3 :: v2 :: v1 :: [.ref t0]) (rest := [.ref t0]) rfl rfl (Nat.le_of_ble_eq_true rfl) (Nat.le_of_ble_eq_true rfl)
theorem g134_12 (c : rz_oc h a 11) : rg Z d rx_m134 12 L (v1 :: .ref a :: []) (rz_mk h ι, w) = rz_k true (rz_f Z d 162 [.ref a, v1] (rz_mk h ι, w)) (fun v σ' => rg Z d rx_m134 15 L (v.toList ++ []) σ') := rz_cv (pc := 12) (n := 1) (mi := 162) (S := v1 :: .ref a :: []) (rest := []) rfl rfl (Nat.le_of_ble_eq_true rfl) (Nat.le_of_ble_eq_true rfl) c
theorem g134_15 : rg Z d rx_m134 15 [some (.ref a), l1, l2] S (rz_mk h ι, w) = rg Z d rx_m134 16 [some (.ref a), l1, l2] (.ref a :: S) (rz_mk h ι, w) := rz_s1 fun _ => rfl
theorem g134_16 (c : rz_fR h a 11 5) : rg Z d rx_m134 16 L (.ref a :: S) (rz_mk h ι, w) = rg Z d rx_m134 19 L (rz_rv h a 5 :: S) (rz_mk h ι, w) := rz_gR rfl (by decide) c
theorem g134_19 : rg Z d rx_m134 19 [some (.ref a), l1, l2] S (rz_mk h ι, w) = rg Z d rx_m134 20 [some (.ref a), l1, l2] (.ref a :: S) (rz_mk h ι, w) := rz_s1 fun _ => rfl
theorem g134_20 (c : rz_fR h a 11 11) : rg Z d rx_m134 20 L (.ref a :: S) (rz_mk h ι, w) = rg Z d rx_m134 23 L (rz_rv h a 11 :: S) (rz_mk h ι, w) := rz_gR rfl (by decide) c
theorem g134_23 : rg Z d rx_m134 23 [some (.ref a), l1, l2] S (rz_mk h ι, w) = rg Z d rx_m134 24 [some (.ref a), l1, l2] (.ref a :: S) (rz_mk h ι, w) := rz_s1 fun _ => rfl
theorem g134_24 (c : rz_fR h a 11 10) : rg Z d rx_m134 24 L (.ref a :: S) (rz_mk h ι, w) = rg Z d rx_m134 27 L (rz_rv h a 10 :: S) (rz_mk h ι, w) := rz_gR rfl (by decide) c
theorem g134_27 : rg Z d rx_m134 27 [l0, some (.int x), l2] S (rz_mk h ι, w) = rg Z d rx_m134 28 [l0, some (.int x), l2] (.int x :: S) (rz_mk h ι, w) := rz_s1 fun _ => rfl
theorem g134_28 : rg Z d rx_m134 28 [l0, l1, some (.int x)] S (rz_mk h ι, w) = rg Z d rx_m134 29 [l0, l1, some (.int x)] (.int x :: S) (rz_mk h ι, w) := rz_s1 fun _ => rfl
theorem g134_29 (c : rz_oc h a 2) : rg Z d rx_m134 29 L (v4 :: v3 :: v2 :: v1 :: .ref a :: []) (rz_mk h ι, w) = rz_k true (rz_f Z d 11 [.ref a, v1, v2, v3, v4] (rz_mk h ι, w)) (fun v σ' => rg Z d rx_m134 32 L (v.toList ++ []) σ') := rz_cv (pc := 29) (n := 4) (mi := 11) (S := v4 :: v3 :: v2 :: v1 :: .ref a :: []) (rest := []) rfl rfl (Nat.le_of_ble_eq_true rfl) (Nat.le_of_ble_eq_true rfl) c
theorem g134_32 : rg Z d rx_m134 32 L [.int x] (rz_mk h ι, w) = some (.inl (some (.int x)), (rz_mk h ι, w)) := rz_reti rfl rfl rfl
theorem e134 : rz_f Z (d + 1) 134 [.ref t0, .int s1, .int s2] σ = rg Z d rx_m134 0 [some (.ref t0), some (.int s1), some (.int s2)] [] σ := rz_f_eq rfl (Nat.le_of_ble_eq_true rfl)
theorem g135_0 : rg Z d rx_m135 0 [some (.ref a), l1] S (rz_mk h ι, w) = rg Z d rx_m135 1 [some (.ref a), l1] (.ref a :: S) (rz_mk h ι, w) := rz_s1 fun _ => rfl
theorem g135_1 : rg Z d rx_m135 1 [l0, some (.int x)] S (rz_mk h ι, w) = rg Z d rx_m135 2 [l0, some (.int x)] (.int x :: S) (rz_mk h ι, w) := rz_s1 fun _ => rfl
theorem g135_2 : rg Z d rx_m135 2 L S (rz_mk h ι, w) = rg Z d rx_m135 3 L (.int 0 :: S) (rz_mk h ι, w) := rz_s1 fun _ => rfl
theorem g135_3 : rg Z d rx_m135 3 L S (rz_mk h ι, w) = rg Z d rx_m135 4 L (.int 1 :: S) (rz_mk h ι, w) := rz_s1 fun _ => rfl
theorem g135_4 : rg Z d rx_m135 4 L (v3 :: v2 :: v1 :: [.ref t0]) (rz_mk h ι, w) = rz_k true (rz_f Z d 161 [v1, v2, v3] (rz_mk h ι, w)) (fun v σ' => rg Z d rx_m135 7 L (v.toList ++ [.ref t0]) σ') := rz_cs (pc := 4) (n := 3) (mi := 161) (S := v3 :: v2 :: v1 :: [.ref t0]) (rest := [.ref t0]) rfl rfl (Nat.le_of_ble_eq_true rfl) (Nat.le_of_ble_eq_true rfl)
theorem g135_7 (c : rz_oc h a 11) : rg Z d rx_m135 7 L (v1 :: .ref a :: []) (rz_mk h ι, w) = rz_k true (rz_f Z d 162 [.ref a, v1] (rz_mk h ι, w)) (fun v σ' => rg Z d rx_m135 10 L (v.toList ++ []) σ') := rz_cv (pc := 7) (n := 1) (mi := 162) (S := v1 :: .ref a :: []) (rest := []) rfl rfl (Nat.le_of_ble_eq_true rfl) (Nat.le_of_ble_eq_true rfl) c
theorem g135_10 : rg Z d rx_m135 10 [some (.ref a), l1] S (rz_mk h ι, w) = rg Z d rx_m135 11 [some (.ref a), l1] (.ref a :: S) (rz_mk h ι, w) := rz_s1 fun _ => rfl
theorem g135_11 (c : rz_fR h a 11 6) : rg Z d rx_m135 11 L (.ref a :: S) (rz_mk h ι, w) = rg Z d rx_m135 14 L (rz_rv h a 6 :: S) (rz_mk h ι, w) := rz_gR rfl (by decide) c
theorem g135_14 : rg Z d rx_m135 14 [some (.ref a), l1] S (rz_mk h ι, w) = rg Z d rx_m135 15 [some (.ref a), l1] (.ref a :: S) (rz_mk h ι, w) := rz_s1 fun _ => rfl
theorem g135_15 (c : rz_fR h a 11 11) : rg Z d rx_m135 15 L (.ref a :: S) (rz_mk h ι, w) = rg Z d rx_m135 18 L (rz_rv h a 11 :: S) (rz_mk h ι, w) := rz_gR rfl (by decide) c
theorem g135_18 : rg Z d rx_m135 18 [some (.ref a), l1] S (rz_mk h ι, w) = rg Z d rx_m135 19 [some (.ref a), l1] (.ref a :: S) (rz_mk h ι, w) := rz_s1 fun _ => rfl
theorem g135_19 (c : rz_fR h a 11 10) : rg Z d rx_m135 19 L (.ref a :: S) (rz_mk h ι, w) = rg Z d rx_m135 22 L (rz_rv h a 10 :: S) (rz_mk h ι, w) := rz_gR rfl (by decide) c
theorem g135_22 : rg Z d rx_m135 22 [some (.ref a), l1] S (rz_mk h ι, w) = rg Z d rx_m135 23 [some (.ref a), l1] (.ref a :: S) (rz_mk h ι, w) := rz_s1 fun _ => rfl
theorem g135_23 (c : rz_fR h a 11 4) : rg Z d rx_m135 23 L (.ref a :: S) (rz_mk h ι, w) = rg Z d rx_m135 26 L (rz_rv h a 4 :: S) (rz_mk h ι, w) := rz_gR rfl (by decide) c
theorem g135_26 (c : rz_oc h a 4) : rg Z d rx_m135 26 L (v3 :: v2 :: v1 :: .ref a :: []) (rz_mk h ι, w) = rz_k true (rz_f Z d 36 [.ref a, v1, v2, v3] (rz_mk h ι, w)) (fun v σ' => rg Z d rx_m135 29 L (v.toList ++ []) σ') := rz_cv (pc := 26) (n := 3) (mi := 36) (S := v3 :: v2 :: v1 :: .ref a :: []) (rest := []) rfl rfl (Nat.le_of_ble_eq_true rfl) (Nat.le_of_ble_eq_true rfl) c
theorem g135_29 : rg Z d rx_m135 29 [l0, some (.int x)] S (rz_mk h ι, w) = rg Z d rx_m135 30 [l0, some (.int x)] (.int x :: S) (rz_mk h ι, w) := rz_s1 fun _ => rfl
theorem g135_30 : rg Z d rx_m135 30 L (.int x :: S) (rz_mk h ι, w) = if x = 0 then rg Z d rx_m135 33 L S (rz_mk h ι, w) else rg Z d rx_m135 41 L S (rz_mk h ι, w) := rz_if1 (pc := 30) (t := 41) (off := 11) (cc := .ne) (by decide) rfl
theorem g135_33 : rg Z d rx_m135 33 [some (.ref a), l1] S (rz_mk h ι, w) = rg Z d rx_m135 34 [some (.ref a), l1] (.ref a :: S) (rz_mk h ι, w) := rz_s1 fun _ => rfl
theorem g135_34 (c : rz_fR h a 11 6) : rg Z d rx_m135 34 L (.ref a :: S) (rz_mk h ι, w) = rg Z d rx_m135 37 L (rz_rv h a 6 :: S) (rz_mk h ι, w) := rz_gR rfl (by decide) c
theorem g135_37 (c : rz_fI h a 4 3) : rg Z d rx_m135 37 L (.ref a :: S) (rz_mk h ι, w) = rg Z d rx_m135 40 L (.int (ι a 3) :: S) (rz_mk h ι, w) := rz_gI rfl (by decide) c
theorem g135_40 : rg Z d rx_m135 40 L [.int x] (rz_mk h ι, w) = some (.inl (some (.int x)), (rz_mk h ι, w)) := rz_reti rfl rfl rfl
theorem g135_41 : rg Z d rx_m135 41 [some (.ref a), l1] S (rz_mk h ι, w) = rg Z d rx_m135 42 [some (.ref a), l1] (.ref a :: S) (rz_mk h ι, w) := rz_s1 fun _ => rfl
theorem g135_42 (c : rz_fR h a 11 6) : rg Z d rx_m135 42 L (.ref a :: S) (rz_mk h ι, w) = rg Z d rx_m135 45 L (rz_rv h a 6 :: S) (rz_mk h ι, w) := rz_gR rfl (by decide) c
theorem g135_45 (c : rz_fI h a 4 3) : rg Z d rx_m135 45 L (.ref a :: S) (rz_mk h ι, w) = rg Z d rx_m135 48 L (.int (ι a 3) :: S) (rz_mk h ι, w) := rz_gI rfl (by decide) c
theorem g135_48 : rg Z d rx_m135 48 L (.int x :: S) (rz_mk h ι, w) = if 0 < x then rg Z d rx_m135 51 L S (rz_mk h ι, w) else rg Z d rx_m135 63 L S (rz_mk h ι, w) := rz_if1 (pc := 48) (t := 63) (off := 15) (cc := .le) (by decide) rfl
theorem g135_51 : rg Z d rx_m135 51 [some (.ref a), l1] S (rz_mk h ι, w) = rg Z d rx_m135 52 [some (.ref a), l1] (.ref a :: S) (rz_mk h ι, w) := rz_s1 fun _ => rfl
theorem g135_52 (c : rz_fR h a 11 6) : rg Z d rx_m135 52 L (.ref a :: S) (rz_mk h ι, w) = rg Z d rx_m135 55 L (rz_rv h a 6 :: S) (rz_mk h ι, w) := rz_gR rfl (by decide) c
theorem g135_55 (c : rz_fR h a 4 2) : rg Z d rx_m135 55 L (.ref a :: S) (rz_mk h ι, w) = rg Z d rx_m135 58 L (rz_rv h a 2 :: S) (rz_mk h ι, w) := rz_gR rfl (by decide) c
theorem g135_58 : rg Z d rx_m135 58 L S (rz_mk h ι, w) = rg Z d rx_m135 59 L (.int 0 :: S) (rz_mk h ι, w) := rz_s1 fun _ => rfl
theorem g135_59 (c : rz_ar h a 0) (hi : rz_ix x (rz_ln h a)) : rg Z d rx_m135 59 L (.int x :: .ref a :: S) (rz_mk h ι, w) = rg Z d rx_m135 60 L (.int (ι a x.toNatClampNeg) :: S) (rz_mk h ι, w) := rz_iald rfl c hi
theorem g135_60 : rg Z d rx_m135 60 L S (rz_mk h ι, w) = rg Z d rx_m135 64 L S (rz_mk h ι, w) := rz_s1 fun _ => rfl
theorem g135_63 : rg Z d rx_m135 63 L S (rz_mk h ι, w) = rg Z d rx_m135 64 L (.int (-1) :: S) (rz_mk h ι, w) := rz_s1 fun _ => rfl
theorem g135_64 : rg Z d rx_m135 64 L [.int x] (rz_mk h ι, w) = some (.inl (some (.int x)), (rz_mk h ι, w)) := rz_reti rfl rfl rfl
theorem e135 : rz_f Z (d + 1) 135 [.ref t0, .int s1] σ = rg Z d rx_m135 0 [some (.ref t0), some (.int s1)] [] σ := rz_f_eq rfl (Nat.le_of_ble_eq_true rfl)
theorem g136_0 : rg Z d rx_m136 0 [some (.ref a), l1] S (rz_mk h ι, w) = rg Z d rx_m136 1 [some (.ref a), l1] (.ref a :: S) (rz_mk h ι, w) := rz_s1 fun _ => rfl
theorem g136_1 : rg Z d rx_m136 1 [l0, some (.int x)] S (rz_mk h ι, w) = rg Z d rx_m136 2 [l0, some (.int x)] (.int x :: S) (rz_mk h ι, w) := rz_s1 fun _ => rfl
theorem g136_2 : rg Z d rx_m136 2 L S (rz_mk h ι, w) = rg Z d rx_m136 3 L (.int 0 :: S) (rz_mk h ι, w) := rz_s1 fun _ => rfl
theorem g136_3 : rg Z d rx_m136 3 L S (rz_mk h ι, w) = rg Z d rx_m136 4 L (.int 1 :: S) (rz_mk h ι, w) := rz_s1 fun _ => rfl
theorem g136_4 : rg Z d rx_m136 4 L (v3 :: v2 :: v1 :: [.ref t0]) (rz_mk h ι, w) = rz_k true (rz_f Z d 161 [v1, v2, v3] (rz_mk h ι, w)) (fun v σ' => rg Z d rx_m136 7 L (v.toList ++ [.ref t0]) σ') := rz_cs (pc := 4) (n := 3) (mi := 161) (S := v3 :: v2 :: v1 :: [.ref t0]) (rest := [.ref t0]) rfl rfl (Nat.le_of_ble_eq_true rfl) (Nat.le_of_ble_eq_true rfl)
theorem g136_7 (c : rz_oc h a 11) : rg Z d rx_m136 7 L (v1 :: .ref a :: []) (rz_mk h ι, w) = rz_k true (rz_f Z d 162 [.ref a, v1] (rz_mk h ι, w)) (fun v σ' => rg Z d rx_m136 10 L (v.toList ++ []) σ') := rz_cv (pc := 7) (n := 1) (mi := 162) (S := v1 :: .ref a :: []) (rest := []) rfl rfl (Nat.le_of_ble_eq_true rfl) (Nat.le_of_ble_eq_true rfl) c
theorem g136_10 : rg Z d rx_m136 10 [some (.ref a), l1] S (rz_mk h ι, w) = rg Z d rx_m136 11 [some (.ref a), l1] (.ref a :: S) (rz_mk h ι, w) := rz_s1 fun _ => rfl
theorem g136_11 (c : rz_fR h a 11 6) : rg Z d rx_m136 11 L (.ref a :: S) (rz_mk h ι, w) = rg Z d rx_m136 14 L (rz_rv h a 6 :: S) (rz_mk h ι, w) := rz_gR rfl (by decide) c
theorem g136_14 : rg Z d rx_m136 14 [some (.ref a), l1] S (rz_mk h ι, w) = rg Z d rx_m136 15 [some (.ref a), l1] (.ref a :: S) (rz_mk h ι, w) := rz_s1 fun _ => rfl
theorem g136_15 (c : rz_fR h a 11 11) : rg Z d rx_m136 15 L (.ref a :: S) (rz_mk h ι, w) = rg Z d rx_m136 18 L (rz_rv h a 11 :: S) (rz_mk h ι, w) := rz_gR rfl (by decide) c
theorem g136_18 : rg Z d rx_m136 18 [some (.ref a), l1] S (rz_mk h ι, w) = rg Z d rx_m136 19 [some (.ref a), l1] (.ref a :: S) (rz_mk h ι, w) := rz_s1 fun _ => rfl
theorem g136_19 (c : rz_fR h a 11 10) : rg Z d rx_m136 19 L (.ref a :: S) (rz_mk h ι, w) = rg Z d rx_m136 22 L (rz_rv h a 10 :: S) (rz_mk h ι, w) := rz_gR rfl (by decide) c
theorem g136_22 : rg Z d rx_m136 22 [some (.ref a), l1] S (rz_mk h ι, w) = rg Z d rx_m136 23 [some (.ref a), l1] (.ref a :: S) (rz_mk h ι, w) := rz_s1 fun _ => rfl
theorem g136_23 (c : rz_fR h a 11 4) : rg Z d rx_m136 23 L (.ref a :: S) (rz_mk h ι, w) = rg Z d rx_m136 26 L (rz_rv h a 4 :: S) (rz_mk h ι, w) := rz_gR rfl (by decide) c
theorem g136_26 (c : rz_oc h a 4) : rg Z d rx_m136 26 L (v3 :: v2 :: v1 :: .ref a :: []) (rz_mk h ι, w) = rz_k true (rz_f Z d 36 [.ref a, v1, v2, v3] (rz_mk h ι, w)) (fun v σ' => rg Z d rx_m136 29 L (v.toList ++ []) σ') := rz_cv (pc := 26) (n := 3) (mi := 36) (S := v3 :: v2 :: v1 :: .ref a :: []) (rest := []) rfl rfl (Nat.le_of_ble_eq_true rfl) (Nat.le_of_ble_eq_true rfl) c
theorem g136_29 : rg Z d rx_m136 29 [some (.ref a), l1] S (rz_mk h ι, w) = rg Z d rx_m136 30 [some (.ref a), l1] (.ref a :: S) (rz_mk h ι, w) := rz_s1 fun _ => rfl
theorem g136_30 (c : rz_fR h a 11 6) : rg Z d rx_m136 30 L (.ref a :: S) (rz_mk h ι, w) = rg Z d rx_m136 33 L (rz_rv h a 6 :: S) (rz_mk h ι, w) := rz_gR rfl (by decide) c
theorem g136_33 : rg Z d rx_m136 33 [some (.ref a), l1] S (rz_mk h ι, w) = rg Z d rx_m136 34 [some (.ref a), l1] (.ref a :: S) (rz_mk h ι, w) := rz_s1 fun _ => rfl
theorem g136_34 (c : rz_fR h a 11 11) : rg Z d rx_m136 34 L (.ref a :: S) (rz_mk h ι, w) = rg Z d rx_m136 37 L (rz_rv h a 11 :: S) (rz_mk h ι, w) := rz_gR rfl (by decide) c
theorem g136_37 : rg Z d rx_m136 37 [some (.ref a), l1] S (rz_mk h ι, w) = rg Z d rx_m136 38 [some (.ref a), l1] (.ref a :: S) (rz_mk h ι, w) := rz_s1 fun _ => rfl
theorem g136_38 (c : rz_fR h a 11 10) : rg Z d rx_m136 38 L (.ref a :: S) (rz_mk h ι, w) = rg Z d rx_m136 41 L (rz_rv h a 10 :: S) (rz_mk h ι, w) := rz_gR rfl (by decide) c
theorem g136_41 : rg Z d rx_m136 41 [some (.ref a), l1] S (rz_mk h ι, w) = rg Z d rx_m136 42 [some (.ref a), l1] (.ref a :: S) (rz_mk h ι, w) := rz_s1 fun _ => rfl
theorem g136_42 (c : rz_fR h a 11 4) : rg Z d rx_m136 42 L (.ref a :: S) (rz_mk h ι, w) = rg Z d rx_m136 45 L (rz_rv h a 4 :: S) (rz_mk h ι, w) := rz_gR rfl (by decide) c
theorem g136_45 (c : rz_oc h a 4) : rg Z d rx_m136 45 L (v3 :: v2 :: v1 :: .ref a :: []) (rz_mk h ι, w) = rz_k true (rz_f Z d 38 [.ref a, v1, v2, v3] (rz_mk h ι, w)) (fun v σ' => rg Z d rx_m136 48 L (v.toList ++ []) σ') := rz_cv (pc := 45) (n := 3) (mi := 38) (S := v3 :: v2 :: v1 :: .ref a :: []) (rest := []) rfl rfl (Nat.le_of_ble_eq_true rfl) (Nat.le_of_ble_eq_true rfl) c
theorem g136_48 : rg Z d rx_m136 48 [l0, some (.int x)] S (rz_mk h ι, w) = rg Z d rx_m136 49 [l0, some (.int x)] (.int x :: S) (rz_mk h ι, w) := rz_s1 fun _ => rfl
theorem g136_49 : rg Z d rx_m136 49 L (.int x :: S) (rz_mk h ι, w) = if x = 0 then rg Z d rx_m136 52 L S (rz_mk h ι, w) else rg Z d rx_m136 62 L S (rz_mk h ι, w) := rz_if1 (pc := 49) (t := 62) (off := 13) (cc := .ne) (by decide) rfl
theorem g136_52 : rg Z d rx_m136 52 [some (.ref a), l1] S (rz_mk h ι, w) = rg Z d rx_m136 53 [some (.ref a), l1] (.ref a :: S) (rz_mk h ι, w) := rz_s1 fun _ => rfl
theorem g136_53 (c : rz_fR h a 11 6) : rg Z d rx_m136 53 L (.ref a :: S) (rz_mk h ι, w) = rg Z d rx_m136 56 L (rz_rv h a 6 :: S) (rz_mk h ι, w) := rz_gR rfl (by decide) c
theorem g136_56 (c : rz_fI h a 4 4) : rg Z d rx_m136 56 L (.ref a :: S) (rz_mk h ι, w) = rg Z d rx_m136 59 L (.int (ι a 4) :: S) (rz_mk h ι, w) := rz_gI rfl (by decide) c
theorem g136_59 : rg Z d rx_m136 59 L S (rz_mk h ι, w) = rg Z d rx_m136 69 L S (rz_mk h ι, w) := rz_s1 fun _ => rfl
theorem g136_62 : rg Z d rx_m136 62 [some (.ref a), l1] S (rz_mk h ι, w) = rg Z d rx_m136 63 [some (.ref a), l1] (.ref a :: S) (rz_mk h ι, w) := rz_s1 fun _ => rfl
theorem g136_63 (c : rz_fR h a 11 6) : rg Z d rx_m136 63 L (.ref a :: S) (rz_mk h ι, w) = rg Z d rx_m136 66 L (rz_rv h a 6 :: S) (rz_mk h ι, w) := rz_gR rfl (by decide) c
theorem g136_66 (c : rz_fI h a 4 5) : rg Z d rx_m136 66 L (.ref a :: S) (rz_mk h ι, w) = rg Z d rx_m136 69 L (.int (ι a 5) :: S) (rz_mk h ι, w) := rz_gI rfl (by decide) c
theorem g136_69 : rg Z d rx_m136 69 L [.int x] (rz_mk h ι, w) = some (.inl (some (.int x)), (rz_mk h ι, w)) := rz_reti rfl rfl rfl
theorem e136 : rz_f Z (d + 1) 136 [.ref t0, .int s1] σ = rg Z d rx_m136 0 [some (.ref t0), some (.int s1)] [] σ := rz_f_eq rfl (Nat.le_of_ble_eq_true rfl)
theorem g137_0 : rg Z d rx_m137 0 [some (.ref a)] S (rz_mk h ι, w) = rg Z d rx_m137 1 [some (.ref a)] (.ref a :: S) (rz_mk h ι, w) := rz_s1 fun _ => rfl
theorem g137_1 (c : rz_fR h a 11 5) : rg Z d rx_m137 1 L (.ref a :: S) (rz_mk h ι, w) = rg Z d rx_m137 4 L (rz_rv h a 5 :: S) (rz_mk h ι, w) := rz_gR rfl (by decide) c
theorem g137_4 : rg Z d rx_m137 4 [some (.ref a)] S (rz_mk h ι, w) = rg Z d rx_m137 5 [some (.ref a)] (.ref a :: S) (rz_mk h ι, w) := rz_s1 fun _ => rfl
theorem g137_5 (c : rz_fR h a 11 11) : rg Z d rx_m137 5 L (.ref a :: S) (rz_mk h ι, w) = rg Z d rx_m137 8 L (rz_rv h a 11 :: S) (rz_mk h ι, w) := rz_gR rfl (by decide) c
theorem g137_8 : rg Z d rx_m137 8 [some (.ref a)] S (rz_mk h ι, w) = rg Z d rx_m137 9 [some (.ref a)] (.ref a :: S) (rz_mk h ι, w) := rz_s1 fun _ => rfl
theorem g137_9 (c : rz_fR h a 11 10) : rg Z d rx_m137 9 L (.ref a :: S) (rz_mk h ι, w) = rg Z d rx_m137 12 L (rz_rv h a 10 :: S) (rz_mk h ι, w) := rz_gR rfl (by decide) c
theorem g137_12 (c : rz_oc h a 2) : rg Z d rx_m137 12 L (v2 :: v1 :: .ref a :: []) (rz_mk h ι, w) = rz_k true (rz_f Z d 12 [.ref a, v1, v2] (rz_mk h ι, w)) (fun v σ' => rg Z d rx_m137 15 L (v.toList ++ []) σ') := rz_cv (pc := 12) (n := 2) (mi := 12) (S := v2 :: v1 :: .ref a :: []) (rest := []) rfl rfl (Nat.le_of_ble_eq_true rfl) (Nat.le_of_ble_eq_true rfl) c
theorem g137_15 : rg Z d rx_m137 15 L [.int x] (rz_mk h ι, w) = some (.inl (some (.int x)), (rz_mk h ι, w)) := rz_reti rfl rfl rfl
theorem e137 : rz_f Z (d + 1) 137 [.ref t0] σ = rg Z d rx_m137 0 [some (.ref t0)] [] σ := rz_f_eq rfl (Nat.le_of_ble_eq_true rfl)
theorem g138_0 : rg Z d rx_m138 0 [some (.ref a), l1] S (rz_mk h ι, w) = rg Z d rx_m138 1 [some (.ref a), l1] (.ref a :: S) (rz_mk h ι, w) := rz_s1 fun _ => rfl
theorem g138_1 : rg Z d rx_m138 1 [l0, some (.int x)] S (rz_mk h ι, w) = rg Z d rx_m138 2 [l0, some (.int x)] (.int x :: S) (rz_mk h ι, w) := rz_s1 fun _ => rfl
theorem g138_2 (c : rz_oc h a 11) : rg Z d rx_m138 2 L (v1 :: .ref a :: []) (rz_mk h ι, w) = rz_k true (rz_f Z d 164 [.ref a, v1] (rz_mk h ι, w)) (fun v σ' => rg Z d rx_m138 5 L (v.toList ++ []) σ') := rz_cv (pc := 2) (n := 1) (mi := 164) (S := v1 :: .ref a :: []) (rest := []) rfl rfl (Nat.le_of_ble_eq_true rfl) (Nat.le_of_ble_eq_true rfl) c
theorem g138_5 : rg Z d rx_m138 5 [some (.ref a), l1] S (rz_mk h ι, w) = rg Z d rx_m138 6 [some (.ref a), l1] (.ref a :: S) (rz_mk h ι, w) := rz_s1 fun _ => rfl
theorem g138_6 (c : rz_fR h a 11 5) : rg Z d rx_m138 6 L (.ref a :: S) (rz_mk h ι, w) = rg Z d rx_m138 9 L (rz_rv h a 5 :: S) (rz_mk h ι, w) := rz_gR rfl (by decide) c
theorem g138_9 : rg Z d rx_m138 9 [some (.ref a), l1] S (rz_mk h ι, w) = rg Z d rx_m138 10 [some (.ref a), l1] (.ref a :: S) (rz_mk h ι, w) := rz_s1 fun _ => rfl
theorem g138_10 (c : rz_fR h a 11 11) : rg Z d rx_m138 10 L (.ref a :: S) (rz_mk h ι, w) = rg Z d rx_m138 13 L (rz_rv h a 11 :: S) (rz_mk h ι, w) := rz_gR rfl (by decide) c
theorem g138_13 : rg Z d rx_m138 13 [some (.ref a), l1] S (rz_mk h ι, w) = rg Z d rx_m138 14 [some (.ref a), l1] (.ref a :: S) (rz_mk h ι, w) := rz_s1 fun _ => rfl
theorem g138_14 (c : rz_fR h a 11 10) : rg Z d rx_m138 14 L (.ref a :: S) (rz_mk h ι, w) = rg Z d rx_m138 17 L (rz_rv h a 10 :: S) (rz_mk h ι, w) := rz_gR rfl (by decide) c
theorem g138_17 (c : rz_oc h a 2) : rg Z d rx_m138 17 L (v2 :: v1 :: .ref a :: []) (rz_mk h ι, w) = rz_k true (rz_f Z d 12 [.ref a, v1, v2] (rz_mk h ι, w)) (fun v σ' => rg Z d rx_m138 20 L (v.toList ++ []) σ') := rz_cv (pc := 17) (n := 2) (mi := 12) (S := v2 :: v1 :: .ref a :: []) (rest := []) rfl rfl (Nat.le_of_ble_eq_true rfl) (Nat.le_of_ble_eq_true rfl) c
theorem g138_20 : rg Z d rx_m138 20 L (.int x :: S) (rz_mk h ι, w) = rg Z d rx_m138 21 L S (rz_mk h ι, w) := rz_s1 fun _ => rfl
theorem g138_21 : rg Z d rx_m138 21 [some (.ref a), l1] S (rz_mk h ι, w) = rg Z d rx_m138 22 [some (.ref a), l1] (.ref a :: S) (rz_mk h ι, w) := rz_s1 fun _ => rfl
theorem g138_22 (c : rz_fR h a 11 5) : rg Z d rx_m138 22 L (.ref a :: S) (rz_mk h ι, w) = rg Z d rx_m138 25 L (rz_rv h a 5 :: S) (rz_mk h ι, w) := rz_gR rfl (by decide) c
theorem g138_25 (c : rz_fR h a 2 4) : rg Z d rx_m138 25 L (.ref a :: S) (rz_mk h ι, w) = rg Z d rx_m138 28 L (rz_rv h a 4 :: S) (rz_mk h ι, w) := rz_gR rfl (by decide) c
theorem g138_28 : rg Z d rx_m138 28 [l0, some (.int x)] S (rz_mk h ι, w) = rg Z d rx_m138 29 [l0, some (.int x)] (.int x :: S) (rz_mk h ι, w) := rz_s1 fun _ => rfl
theorem g138_29 (c : rz_ar h a 0) (hi : rz_ix x (rz_ln h a)) : rg Z d rx_m138 29 L (.int x :: .ref a :: S) (rz_mk h ι, w) = rg Z d rx_m138 30 L (.int (ι a x.toNatClampNeg) :: S) (rz_mk h ι, w) := rz_iald rfl c hi
theorem g138_30 : rg Z d rx_m138 30 L [.int x] (rz_mk h ι, w) = some (.inl (some (.int x)), (rz_mk h ι, w)) := rz_reti rfl rfl rfl
theorem e138 : rz_f Z (d + 1) 138 [.ref t0, .int s1] σ = rg Z d rx_m138 0 [some (.ref t0), some (.int s1)] [] σ := rz_f_eq rfl (Nat.le_of_ble_eq_true rfl)
theorem g139_0 : rg Z d rx_m139 0 [some (.ref a), l1] S (rz_mk h ι, w) = rg Z d rx_m139 1 [some (.ref a), l1] (.ref a :: S) (rz_mk h ι, w) := rz_s1 fun _ => rfl
theorem g139_1 : rg Z d rx_m139 1 [l0, some (.int x)] S (rz_mk h ι, w) = rg Z d rx_m139 2 [l0, some (.int x)] (.int x :: S) (rz_mk h ι, w) := rz_s1 fun _ => rfl
theorem g139_2 : rg Z d rx_m139 2 L S (rz_mk h ι, w) = rg Z d rx_m139 3 L (.int 0 :: S) (rz_mk h ι, w) := rz_s1 fun _ => rfl
theorem g139_3 : rg Z d rx_m139 3 L S (rz_mk h ι, w) = rg Z d rx_m139 5 L (.int 99 :: S) (rz_mk h ι, w) := rz_s1 fun _ => rfl
theorem g139_5 : rg Z d rx_m139 5 L (v3 :: v2 :: v1 :: [.ref t0]) (rz_mk h ι, w) = rz_k true (rz_f Z d 161 [v1, v2, v3] (rz_mk h ι, w)) (fun v σ' => rg Z d rx_m139 8 L (v.toList ++ [.ref t0]) σ') := rz_cs (pc := 5) (n := 3) (mi := 161) (S := v3 :: v2 :: v1 :: [.ref t0]) (rest := [.ref t0]) rfl rfl (Nat.le_of_ble_eq_true rfl) (Nat.le_of_ble_eq_true rfl)
theorem g139_8 (c : rz_oc h a 11) : rg Z d rx_m139 8 L (v1 :: .ref a :: []) (rz_mk h ι, w) = rz_k true (rz_f Z d 162 [.ref a, v1] (rz_mk h ι, w)) (fun v σ' => rg Z d rx_m139 11 L (v.toList ++ []) σ') := rz_cv (pc := 8) (n := 1) (mi := 162) (S := v1 :: .ref a :: []) (rest := []) rfl rfl (Nat.le_of_ble_eq_true rfl) (Nat.le_of_ble_eq_true rfl) c
theorem g139_11 : rg Z d rx_m139 11 [some (.ref a), l1] S (rz_mk h ι, w) = rg Z d rx_m139 12 [some (.ref a), l1] (.ref a :: S) (rz_mk h ι, w) := rz_s1 fun _ => rfl
theorem g139_12 (c : rz_fR h a 11 5) : rg Z d rx_m139 12 L (.ref a :: S) (rz_mk h ι, w) = rg Z d rx_m139 15 L (rz_rv h a 5 :: S) (rz_mk h ι, w) := rz_gR rfl (by decide) c
theorem g139_15 : rg Z d rx_m139 15 [some (.ref a), l1] S (rz_mk h ι, w) = rg Z d rx_m139 16 [some (.ref a), l1] (.ref a :: S) (rz_mk h ι, w) := rz_s1 fun _ => rfl
theorem g139_16 (c : rz_fR h a 11 11) : rg Z d rx_m139 16 L (.ref a :: S) (rz_mk h ι, w) = rg Z d rx_m139 19 L (rz_rv h a 11 :: S) (rz_mk h ι, w) := rz_gR rfl (by decide) c
theorem g139_19 : rg Z d rx_m139 19 [some (.ref a), l1] S (rz_mk h ι, w) = rg Z d rx_m139 20 [some (.ref a), l1] (.ref a :: S) (rz_mk h ι, w) := rz_s1 fun _ => rfl
theorem g139_20 (c : rz_fR h a 11 10) : rg Z d rx_m139 20 L (.ref a :: S) (rz_mk h ι, w) = rg Z d rx_m139 23 L (rz_rv h a 10 :: S) (rz_mk h ι, w) := rz_gR rfl (by decide) c
theorem g139_23 : rg Z d rx_m139 23 [l0, some (.int x)] S (rz_mk h ι, w) = rg Z d rx_m139 24 [l0, some (.int x)] (.int x :: S) (rz_mk h ι, w) := rz_s1 fun _ => rfl
theorem g139_24 (c : rz_oc h a 2) : rg Z d rx_m139 24 L (v3 :: v2 :: v1 :: .ref a :: []) (rz_mk h ι, w) = rz_k true (rz_f Z d 15 [.ref a, v1, v2, v3] (rz_mk h ι, w)) (fun v σ' => rg Z d rx_m139 27 L (v.toList ++ []) σ') := rz_cv (pc := 24) (n := 3) (mi := 15) (S := v3 :: v2 :: v1 :: .ref a :: []) (rest := []) rfl rfl (Nat.le_of_ble_eq_true rfl) (Nat.le_of_ble_eq_true rfl) c
theorem g139_27 : rg Z d rx_m139 27 L [.int x] (rz_mk h ι, w) = some (.inl (some (.int x)), (rz_mk h ι, w)) := rz_reti rfl rfl rfl
theorem e139 : rz_f Z (d + 1) 139 [.ref t0, .int s1] σ = rg Z d rx_m139 0 [some (.ref t0), some (.int s1)] [] σ := rz_f_eq rfl (Nat.le_of_ble_eq_true rfl)
theorem g140_0 : rg Z d rx_m140 0 [some (.ref a), l1, l2] S (rz_mk h ι, w) = rg Z d rx_m140 1 [some (.ref a), l1, l2] (.ref a :: S) (rz_mk h ι, w) := rz_s1 fun _ => rfl
theorem g140_1 : rg Z d rx_m140 1 [l0, some (.int x), l2] S (rz_mk h ι, w) = rg Z d rx_m140 2 [l0, some (.int x), l2] (.int x :: S) (rz_mk h ι, w) := rz_s1 fun _ => rfl
theorem g140_2 : rg Z d rx_m140 2 L S (rz_mk h ι, w) = rg Z d rx_m140 3 L (.int 0 :: S) (rz_mk h ι, w) := rz_s1 fun _ => rfl
theorem g140_3 : rg Z d rx_m140 3 L S (rz_mk h ι, w) = rg Z d rx_m140 5 L (.int 99 :: S) (rz_mk h ι, w) := rz_s1 fun _ => rfl
theorem g140_5 : rg Z d rx_m140 5 L (v3 :: v2 :: v1 :: [.ref t0]) (rz_mk h ι, w) = rz_k true (rz_f Z d 161 [v1, v2, v3] (rz_mk h ι, w)) (fun v σ' => rg Z d rx_m140 8 L (v.toList ++ [.ref t0]) σ') := rz_cs (pc := 5) (n := 3) (mi := 161) (S := v3 :: v2 :: v1 :: [.ref t0]) (rest := [.ref t0]) rfl rfl (Nat.le_of_ble_eq_true rfl) (Nat.le_of_ble_eq_true rfl)
theorem g140_8 : rg Z d rx_m140 8 L (.int x :: S) (rz_mk h ι, w) = if x = 0 then rg Z d rx_m140 19 L S (rz_mk h ι, w) else rg Z d rx_m140 11 L S (rz_mk h ι, w) := rz_if1 (pc := 8) (t := 19) (off := 11) (cc := .eq) (by decide) rfl
theorem g140_11 : rg Z d rx_m140 11 [l0, l1, some (.int x)] S (rz_mk h ι, w) = rg Z d rx_m140 12 [l0, l1, some (.int x)] (.int x :: S) (rz_mk h ι, w) := rz_s1 fun _ => rfl
theorem g140_12 : rg Z d rx_m140 12 L (.int x :: S) (rz_mk h ι, w) = if x < 0 then rg Z d rx_m140 19 L S (rz_mk h ι, w) else rg Z d rx_m140 15 L S (rz_mk h ι, w) := rz_if1 (pc := 12) (t := 19) (off := 7) (cc := .lt) (by decide) rfl
theorem g140_15 : rg Z d rx_m140 15 L S (rz_mk h ι, w) = rg Z d rx_m140 16 L (.int 1 :: S) (rz_mk h ι, w) := rz_s1 fun _ => rfl
theorem g140_16 : rg Z d rx_m140 16 L S (rz_mk h ι, w) = rg Z d rx_m140 20 L S (rz_mk h ι, w) := rz_s1 fun _ => rfl
theorem g140_19 : rg Z d rx_m140 19 L S (rz_mk h ι, w) = rg Z d rx_m140 20 L (.int 0 :: S) (rz_mk h ι, w) := rz_s1 fun _ => rfl
theorem g140_20 (c : rz_oc h a 11) : rg Z d rx_m140 20 L (v1 :: .ref a :: []) (rz_mk h ι, w) = rz_k true (rz_f Z d 162 [.ref a, v1] (rz_mk h ι, w)) (fun v σ' => rg Z d rx_m140 23 L (v.toList ++ []) σ') := rz_cv (pc := 20) (n := 1) (mi := 162) (S := v1 :: .ref a :: []) (rest := []) rfl rfl (Nat.le_of_ble_eq_true rfl) (Nat.le_of_ble_eq_true rfl) c
theorem g140_23 : rg Z d rx_m140 23 [l0, l1, some (.int x)] S (rz_mk h ι, w) = rg Z d rx_m140 24 [l0, l1, some (.int x)] (.int x :: S) (rz_mk h ι, w) := rz_s1 fun _ => rfl
theorem g140_24 : rg Z d rx_m140 24 [some (.ref a), l1, l2] S (rz_mk h ι, w) = rg Z d rx_m140 25 [some (.ref a), l1, l2] (.ref a :: S) (rz_mk h ι, w) := rz_s1 fun _ => rfl
theorem g140_25 (c : rz_fR h a 11 5) : rg Z d rx_m140 25 L (.ref a :: S) (rz_mk h ι, w) = rg Z d rx_m140 28 L (rz_rv h a 5 :: S) (rz_mk h ι, w) := rz_gR rfl (by decide) c
theorem g140_28 : rg Z d rx_m140 28 [some (.ref a), l1, l2] S (rz_mk h ι, w) = rg Z d rx_m140 29 [some (.ref a), l1, l2] (.ref a :: S) (rz_mk h ι, w) := rz_s1 fun _ => rfl
theorem g140_29 (c : rz_fR h a 11 11) : rg Z d rx_m140 29 L (.ref a :: S) (rz_mk h ι, w) = rg Z d rx_m140 32 L (rz_rv h a 11 :: S) (rz_mk h ι, w) := rz_gR rfl (by decide) c
theorem g140_32 : rg Z d rx_m140 32 [some (.ref a), l1, l2] S (rz_mk h ι, w) = rg Z d rx_m140 33 [some (.ref a), l1, l2] (.ref a :: S) (rz_mk h ι, w) := rz_s1 fun _ => rfl
theorem g140_33 (c : rz_fR h a 11 10) : rg Z d rx_m140 33 L (.ref a :: S) (rz_mk h ι, w) = rg Z d rx_m140 36 L (rz_rv h a 10 :: S) (rz_mk h ι, w) := rz_gR rfl (by decide) c
theorem g140_36 : rg Z d rx_m140 36 [l0, some (.int x), l2] S (rz_mk h ι, w) = rg Z d rx_m140 37 [l0, some (.int x), l2] (.int x :: S) (rz_mk h ι, w) := rz_s1 fun _ => rfl
theorem g140_37 (c : rz_oc h a 2) : rg Z d rx_m140 37 L (v3 :: v2 :: v1 :: .ref a :: [.int s0]) (rz_mk h ι, w) = rz_k true (rz_f Z d 15 [.ref a, v1, v2, v3] (rz_mk h ι, w)) (fun v σ' => rg Z d rx_m140 40 L (v.toList ++ [.int s0]) σ') := rz_cv (pc := 37) (n := 3) (mi := 15) (S := v3 :: v2 :: v1 :: .ref a :: [.int s0]) (rest := [.int s0]) rfl rfl (Nat.le_of_ble_eq_true rfl) (Nat.le_of_ble_eq_true rfl) c
theorem g140_40 : rg Z d rx_m140 40 L (.int y :: .int x :: S) (rz_mk h ι, w) = if x < y then rg Z d rx_m140 43 L S (rz_mk h ι, w) else rg Z d rx_m140 55 L S (rz_mk h ι, w) := rz_if2 (pc := 40) (t := 55) (off := 15) (cc := .ge) (by decide) rfl
theorem g140_43 : rg Z d rx_m140 43 [some (.ref a), l1, l2] S (rz_mk h ι, w) = rg Z d rx_m140 44 [some (.ref a), l1, l2] (.ref a :: S) (rz_mk h ι, w) := rz_s1 fun _ => rfl
theorem g140_44 (c : rz_fR h a 11 5) : rg Z d rx_m140 44 L (.ref a :: S) (rz_mk h ι, w) = rg Z d rx_m140 47 L (rz_rv h a 5 :: S) (rz_mk h ι, w) := rz_gR rfl (by decide) c
theorem g140_47 (c : rz_fR h a 2 5) : rg Z d rx_m140 47 L (.ref a :: S) (rz_mk h ι, w) = rg Z d rx_m140 50 L (rz_rv h a 5 :: S) (rz_mk h ι, w) := rz_gR rfl (by decide) c
theorem g140_50 : rg Z d rx_m140 50 [l0, l1, some (.int x)] S (rz_mk h ι, w) = rg Z d rx_m140 51 [l0, l1, some (.int x)] (.int x :: S) (rz_mk h ι, w) := rz_s1 fun _ => rfl
theorem g140_51 (c : rz_ar h a 0) (hi : rz_ix x (rz_ln h a)) : rg Z d rx_m140 51 L (.int x :: .ref a :: S) (rz_mk h ι, w) = rg Z d rx_m140 52 L (.int (ι a x.toNatClampNeg) :: S) (rz_mk h ι, w) := rz_iald rfl c hi
theorem g140_52 : rg Z d rx_m140 52 L S (rz_mk h ι, w) = rg Z d rx_m140 56 L S (rz_mk h ι, w) := rz_s1 fun _ => rfl
theorem g140_55 : rg Z d rx_m140 55 L S (rz_mk h ι, w) = rg Z d rx_m140 56 L (.int (-1) :: S) (rz_mk h ι, w) := rz_s1 fun _ => rfl
theorem g140_56 : rg Z d rx_m140 56 L [.int x] (rz_mk h ι, w) = some (.inl (some (.int x)), (rz_mk h ι, w)) := rz_reti rfl rfl rfl
theorem e140 : rz_f Z (d + 1) 140 [.ref t0, .int s1, .int s2] σ = rg Z d rx_m140 0 [some (.ref t0), some (.int s1), some (.int s2)] [] σ := rz_f_eq rfl (Nat.le_of_ble_eq_true rfl)
theorem g141_0 : rg Z d rx_m141 0 [some (.ref a), l1, l2, l3, l4, l5, l6] S (rz_mk h ι, w) = rg Z d rx_m141 1 [some (.ref a), l1, l2, l3, l4, l5, l6] (.ref a :: S) (rz_mk h ι, w) := rz_s1 fun _ => rfl
theorem g141_1 : rg Z d rx_m141 1 [l0, some (.int x), l2, l3, l4, l5, l6] S (rz_mk h ι, w) = rg Z d rx_m141 2 [l0, some (.int x), l2, l3, l4, l5, l6] (.int x :: S) (rz_mk h ι, w) := rz_s1 fun _ => rfl
theorem g141_2 : rg Z d rx_m141 2 L S (rz_mk h ι, w) = rg Z d rx_m141 3 L (.int 0 :: S) (rz_mk h ι, w) := rz_s1 fun _ => rfl
theorem g141_3 : rg Z d rx_m141 3 L S (rz_mk h ι, w) = rg Z d rx_m141 4 L (.int 1 :: S) (rz_mk h ι, w) := rz_s1 fun _ => rfl
theorem g141_4 : rg Z d rx_m141 4 L (v3 :: v2 :: v1 :: [.ref t0]) (rz_mk h ι, w) = rz_k true (rz_f Z d 161 [v1, v2, v3] (rz_mk h ι, w)) (fun v σ' => rg Z d rx_m141 7 L (v.toList ++ [.ref t0]) σ') := rz_cs (pc := 4) (n := 3) (mi := 161) (S := v3 :: v2 :: v1 :: [.ref t0]) (rest := [.ref t0]) rfl rfl (Nat.le_of_ble_eq_true rfl) (Nat.le_of_ble_eq_true rfl)
theorem g141_7 (c : rz_oc h a 11) : rg Z d rx_m141 7 L (v1 :: .ref a :: []) (rz_mk h ι, w) = rz_k true (rz_f Z d 162 [.ref a, v1] (rz_mk h ι, w)) (fun v σ' => rg Z d rx_m141 10 L (v.toList ++ []) σ') := rz_cv (pc := 7) (n := 1) (mi := 162) (S := v1 :: .ref a :: []) (rest := []) rfl rfl (Nat.le_of_ble_eq_true rfl) (Nat.le_of_ble_eq_true rfl) c
theorem g141_10 : rg Z d rx_m141 10 [some (.ref a), l1, l2, l3, l4, l5, l6] S (rz_mk h ι, w) = rg Z d rx_m141 11 [some (.ref a), l1, l2, l3, l4, l5, l6] (.ref a :: S) (rz_mk h ι, w) := rz_s1 fun _ => rfl
theorem g141_11 (c : rz_fR h a 11 11) : rg Z d rx_m141 11 L (.ref a :: S) (rz_mk h ι, w) = rg Z d rx_m141 14 L (rz_rv h a 11 :: S) (rz_mk h ι, w) := rz_gR rfl (by decide) c
theorem g141_14 (c : rz_fI h a 8 5) : rg Z d rx_m141 14 L (.ref a :: S) (rz_mk h ι, w) = rg Z d rx_m141 17 L (.int (ι a 5) :: S) (rz_mk h ι, w) := rz_gI rfl (by decide) c
theorem g141_17 : rg Z d rx_m141 17 L S (rz_mk h ι, w) = rg Z d rx_m141 18 L (.int (-1) :: S) (rz_mk h ι, w) := rz_s1 fun _ => rfl
theorem g141_18 : rg Z d rx_m141 18 L (.int y :: .int x :: S) (rz_mk h ι, w) = if x = y then rg Z d rx_m141 21 L S (rz_mk h ι, w) else rg Z d rx_m141 23 L S (rz_mk h ι, w) := rz_if2 (pc := 18) (t := 23) (off := 5) (cc := .ne) (by decide) rfl
theorem g141_21 : rg Z d rx_m141 21 L S (rz_mk h ι, w) = rg Z d rx_m141 22 L (.int (-1) :: S) (rz_mk h ι, w) := rz_s1 fun _ => rfl
theorem g141_22 : rg Z d rx_m141 22 L [.int x] (rz_mk h ι, w) = some (.inl (some (.int x)), (rz_mk h ι, w)) := rz_reti rfl rfl rfl
theorem g141_23 : rg Z d rx_m141 23 L S (rz_mk h ι, w) = rg Z d rx_m141 24 L (.int (-1) :: S) (rz_mk h ι, w) := rz_s1 fun _ => rfl
theorem g141_24 : rg Z d rx_m141 24 [l0, some (.int z), l2, l3, l4, l5, l6] (.int x :: S) (rz_mk h ι, w) = rg Z d rx_m141 25 [l0, some (.int z), some (.int x), l3, l4, l5, l6] S (rz_mk h ι, w) := rz_s1 fun _ => rfl
theorem g141_25 : rg Z d rx_m141 25 L S (rz_mk h ι, w) = rg Z d rx_m141 26 L (.int (-1) :: S) (rz_mk h ι, w) := rz_s1 fun _ => rfl
theorem g141_26 : rg Z d rx_m141 26 [l0, l1, some (.int z), l3, l4, l5, l6] (.int x :: S) (rz_mk h ι, w) = rg Z d rx_m141 27 [l0, l1, some (.int z), some (.int x), l4, l5, l6] S (rz_mk h ι, w) := rz_s1 fun _ => rfl
theorem g141_27 : rg Z d rx_m141 27 L S (rz_mk h ι, w) = rg Z d rx_m141 28 L (.int 0 :: S) (rz_mk h ι, w) := rz_s1 fun _ => rfl
theorem g141_28 : rg Z d rx_m141 28 [l0, l1, l2, some (.int z), l4, l5, l6] (.int x :: S) (rz_mk h ι, w) = rg Z d rx_m141 30 [l0, l1, l2, some (.int z), some (.int x), l5, l6] S (rz_mk h ι, w) := rz_s1 fun _ => rfl
theorem g141_30 : rg Z d rx_m141 30 [l0, l1, l2, l3, some (.int x), l5, l6] S (rz_mk h ι, w) = rg Z d rx_m141 32 [l0, l1, l2, l3, some (.int x), l5, l6] (.int x :: S) (rz_mk h ι, w) := rz_s1 fun _ => rfl
theorem g141_32 : rg Z d rx_m141 32 [some (.ref a), l1, l2, l3, l4, l5, l6] S (rz_mk h ι, w) = rg Z d rx_m141 33 [some (.ref a), l1, l2, l3, l4, l5, l6] (.ref a :: S) (rz_mk h ι, w) := rz_s1 fun _ => rfl
theorem g141_33 (c : rz_fR h a 11 11) : rg Z d rx_m141 33 L (.ref a :: S) (rz_mk h ι, w) = rg Z d rx_m141 36 L (rz_rv h a 11 :: S) (rz_mk h ι, w) := rz_gR rfl (by decide) c
theorem g141_36 (c : rz_fI h a 8 3) : rg Z d rx_m141 36 L (.ref a :: S) (rz_mk h ι, w) = rg Z d rx_m141 39 L (.int (ι a 3) :: S) (rz_mk h ι, w) := rz_gI rfl (by decide) c
theorem g141_39 : rg Z d rx_m141 39 L (.int y :: .int x :: S) (rz_mk h ι, w) = if x < y then rg Z d rx_m141 42 L S (rz_mk h ι, w) else rg Z d rx_m141 135 L S (rz_mk h ι, w) := rz_if2 (pc := 39) (t := 135) (off := 96) (cc := .ge) (by decide) rfl
theorem g141_42 : rg Z d rx_m141 42 [l0, l1, l2, l3, some (.int x), l5, l6] S (rz_mk h ι, w) = rg Z d rx_m141 44 [l0, l1, l2, l3, some (.int x), l5, l6] (.int x :: S) (rz_mk h ι, w) := rz_s1 fun _ => rfl
theorem g141_44 : rg Z d rx_m141 44 L S (rz_mk h ι, w) = rg Z d rx_m141 45 L (.int 1 :: S) (rz_mk h ι, w) := rz_s1 fun _ => rfl
theorem g141_45 : rg Z d rx_m141 45 L (.int y :: .int x :: S) (rz_mk h ι, w) = rg Z d rx_m141 46 L (.int (x + y) :: S) (rz_mk h ι, w) := rz_s1 fun _ => rfl
theorem g141_46 : rg Z d rx_m141 46 [l0, l1, l2, l3, some (.int z), l5, l6] (.int x :: S) (rz_mk h ι, w) = rg Z d rx_m141 48 [l0, l1, l2, l3, some (.int z), some (.int x), l6] S (rz_mk h ι, w) := rz_s1 fun _ => rfl
theorem g141_48 : rg Z d rx_m141 48 [l0, l1, l2, l3, l4, some (.int x), l6] S (rz_mk h ι, w) = rg Z d rx_m141 50 [l0, l1, l2, l3, l4, some (.int x), l6] (.int x :: S) (rz_mk h ι, w) := rz_s1 fun _ => rfl
theorem g141_50 : rg Z d rx_m141 50 [some (.ref a), l1, l2, l3, l4, l5, l6] S (rz_mk h ι, w) = rg Z d rx_m141 51 [some (.ref a), l1, l2, l3, l4, l5, l6] (.ref a :: S) (rz_mk h ι, w) := rz_s1 fun _ => rfl
theorem g141_51 (c : rz_fR h a 11 11) : rg Z d rx_m141 51 L (.ref a :: S) (rz_mk h ι, w) = rg Z d rx_m141 54 L (rz_rv h a 11 :: S) (rz_mk h ι, w) := rz_gR rfl (by decide) c
theorem g141_54 (c : rz_fI h a 8 3) : rg Z d rx_m141 54 L (.ref a :: S) (rz_mk h ι, w) = rg Z d rx_m141 57 L (.int (ι a 3) :: S) (rz_mk h ι, w) := rz_gI rfl (by decide) c
theorem g141_57 : rg Z d rx_m141 57 L (.int y :: .int x :: S) (rz_mk h ι, w) = if x < y then rg Z d rx_m141 60 L S (rz_mk h ι, w) else rg Z d rx_m141 129 L S (rz_mk h ι, w) := rz_if2 (pc := 57) (t := 129) (off := 72) (cc := .ge) (by decide) rfl
theorem g141_60 : rg Z d rx_m141 60 [some (.ref a), l1, l2, l3, l4, l5, l6] S (rz_mk h ι, w) = rg Z d rx_m141 61 [some (.ref a), l1, l2, l3, l4, l5, l6] (.ref a :: S) (rz_mk h ι, w) := rz_s1 fun _ => rfl
theorem g141_61 (c : rz_fR h a 11 11) : rg Z d rx_m141 61 L (.ref a :: S) (rz_mk h ι, w) = rg Z d rx_m141 64 L (rz_rv h a 11 :: S) (rz_mk h ι, w) := rz_gR rfl (by decide) c
theorem g141_64 : rg Z d rx_m141 64 [l0, l1, l2, l3, some (.int x), l5, l6] S (rz_mk h ι, w) = rg Z d rx_m141 66 [l0, l1, l2, l3, some (.int x), l5, l6] (.int x :: S) (rz_mk h ι, w) := rz_s1 fun _ => rfl
theorem g141_66 (c : rz_oc h a 8) : rg Z d rx_m141 66 L (v1 :: .ref a :: []) (rz_mk h ι, w) = rz_k true (rz_f Z d 68 [.ref a, v1] (rz_mk h ι, w)) (fun v σ' => rg Z d rx_m141 69 L (v.toList ++ []) σ') := rz_cv (pc := 66) (n := 1) (mi := 68) (S := v1 :: .ref a :: []) (rest := []) rfl rfl (Nat.le_of_ble_eq_true rfl) (Nat.le_of_ble_eq_true rfl) c
theorem g141_69 : rg Z d rx_m141 69 L (.int x :: S) (rz_mk h ι, w) = if x = 0 then rg Z d rx_m141 102 L S (rz_mk h ι, w) else rg Z d rx_m141 72 L S (rz_mk h ι, w) := rz_if1 (pc := 69) (t := 102) (off := 33) (cc := .eq) (by decide) rfl
theorem g141_72 : rg Z d rx_m141 72 [some (.ref a), l1, l2, l3, l4, l5, l6] S (rz_mk h ι, w) = rg Z d rx_m141 73 [some (.ref a), l1, l2, l3, l4, l5, l6] (.ref a :: S) (rz_mk h ι, w) := rz_s1 fun _ => rfl
theorem g141_73 (c : rz_fR h a 11 11) : rg Z d rx_m141 73 L (.ref a :: S) (rz_mk h ι, w) = rg Z d rx_m141 76 L (rz_rv h a 11 :: S) (rz_mk h ι, w) := rz_gR rfl (by decide) c
theorem g141_76 : rg Z d rx_m141 76 [l0, l1, l2, l3, l4, some (.int x), l6] S (rz_mk h ι, w) = rg Z d rx_m141 78 [l0, l1, l2, l3, l4, some (.int x), l6] (.int x :: S) (rz_mk h ι, w) := rz_s1 fun _ => rfl
theorem g141_78 (c : rz_oc h a 8) : rg Z d rx_m141 78 L (v1 :: .ref a :: []) (rz_mk h ι, w) = rz_k true (rz_f Z d 68 [.ref a, v1] (rz_mk h ι, w)) (fun v σ' => rg Z d rx_m141 81 L (v.toList ++ []) σ') := rz_cv (pc := 78) (n := 1) (mi := 68) (S := v1 :: .ref a :: []) (rest := []) rfl rfl (Nat.le_of_ble_eq_true rfl) (Nat.le_of_ble_eq_true rfl) c
theorem g141_81 : rg Z d rx_m141 81 L (.int x :: S) (rz_mk h ι, w) = if x = 0 then rg Z d rx_m141 102 L S (rz_mk h ι, w) else rg Z d rx_m141 84 L S (rz_mk h ι, w) := rz_if1 (pc := 81) (t := 102) (off := 21) (cc := .eq) (by decide) rfl
theorem g141_84 : rg Z d rx_m141 84 [some (.ref a), l1, l2, l3, l4, l5, l6] S (rz_mk h ι, w) = rg Z d rx_m141 85 [some (.ref a), l1, l2, l3, l4, l5, l6] (.ref a :: S) (rz_mk h ι, w) := rz_s1 fun _ => rfl
theorem g141_85 (c : rz_fR h a 11 10) : rg Z d rx_m141 85 L (.ref a :: S) (rz_mk h ι, w) = rg Z d rx_m141 88 L (rz_rv h a 10 :: S) (rz_mk h ι, w) := rz_gR rfl (by decide) c
theorem g141_88 : rg Z d rx_m141 88 [some (.ref a), l1, l2, l3, l4, l5, l6] S (rz_mk h ι, w) = rg Z d rx_m141 89 [some (.ref a), l1, l2, l3, l4, l5, l6] (.ref a :: S) (rz_mk h ι, w) := rz_s1 fun _ => rfl
theorem g141_89 (c : rz_fR h a 11 11) : rg Z d rx_m141 89 L (.ref a :: S) (rz_mk h ι, w) = rg Z d rx_m141 92 L (rz_rv h a 11 :: S) (rz_mk h ι, w) := rz_gR rfl (by decide) c
theorem g141_92 : rg Z d rx_m141 92 [l0, l1, l2, l3, some (.int x), l5, l6] S (rz_mk h ι, w) = rg Z d rx_m141 94 [l0, l1, l2, l3, some (.int x), l5, l6] (.int x :: S) (rz_mk h ι, w) := rz_s1 fun _ => rfl
theorem g141_94 : rg Z d rx_m141 94 [l0, l1, l2, l3, l4, some (.int x), l6] S (rz_mk h ι, w) = rg Z d rx_m141 96 [l0, l1, l2, l3, l4, some (.int x), l6] (.int x :: S) (rz_mk h ι, w) := rz_s1 fun _ => rfl
theorem g141_96 (c : rz_oc h a 5) : rg Z d rx_m141 96 L (v3 :: v2 :: v1 :: .ref a :: []) (rz_mk h ι, w) = rz_k true (rz_f Z d 50 [.ref a, v1, v2, v3] (rz_mk h ι, w)) (fun v σ' => rg Z d rx_m141 99 L (v.toList ++ []) σ') := rz_cv (pc := 96) (n := 3) (mi := 50) (S := v3 :: v2 :: v1 :: .ref a :: []) (rest := []) rfl rfl (Nat.le_of_ble_eq_true rfl) (Nat.le_of_ble_eq_true rfl) c
theorem g141_99 : rg Z d rx_m141 99 L S (rz_mk h ι, w) = rg Z d rx_m141 103 L S (rz_mk h ι, w) := rz_s1 fun _ => rfl
theorem g141_102 : rg Z d rx_m141 102 L S (rz_mk h ι, w) = rg Z d rx_m141 103 L (.int (-1) :: S) (rz_mk h ι, w) := rz_s1 fun _ => rfl
theorem g141_103 : rg Z d rx_m141 103 [l0, l1, l2, l3, l4, some (.int z), l6] (.int x :: S) (rz_mk h ι, w) = rg Z d rx_m141 105 [l0, l1, l2, l3, l4, some (.int z), some (.int x)] S (rz_mk h ι, w) := rz_s1 fun _ => rfl
theorem g141_105 : rg Z d rx_m141 105 [l0, l1, l2, l3, l4, l5, some (.int x)] S (rz_mk h ι, w) = rg Z d rx_m141 107 [l0, l1, l2, l3, l4, l5, some (.int x)] (.int x :: S) (rz_mk h ι, w) := rz_s1 fun _ => rfl
theorem g141_107 : rg Z d rx_m141 107 [l0, l1, l2, some (.int x), l4, l5, l6] S (rz_mk h ι, w) = rg Z d rx_m141 108 [l0, l1, l2, some (.int x), l4, l5, l6] (.int x :: S) (rz_mk h ι, w) := rz_s1 fun _ => rfl
theorem g141_108 : rg Z d rx_m141 108 L (.int y :: .int x :: S) (rz_mk h ι, w) = if y < x then rg Z d rx_m141 111 L S (rz_mk h ι, w) else rg Z d rx_m141 123 L S (rz_mk h ι, w) := rz_if2 (pc := 108) (t := 123) (off := 15) (cc := .le) (by decide) rfl
theorem g141_111 : rg Z d rx_m141 111 [l0, l1, l2, l3, l4, l5, some (.int x)] S (rz_mk h ι, w) = rg Z d rx_m141 113 [l0, l1, l2, l3, l4, l5, some (.int x)] (.int x :: S) (rz_mk h ι, w) := rz_s1 fun _ => rfl
theorem g141_113 : rg Z d rx_m141 113 [l0, l1, some (.int z), l3, l4, l5, l6] (.int x :: S) (rz_mk h ι, w) = rg Z d rx_m141 114 [l0, l1, some (.int z), some (.int x), l4, l5, l6] S (rz_mk h ι, w) := rz_s1 fun _ => rfl
theorem g141_114 : rg Z d rx_m141 114 L S (rz_mk h ι, w) = rg Z d rx_m141 116 L (.int 10 :: S) (rz_mk h ι, w) := rz_s1 fun _ => rfl
theorem g141_116 : rg Z d rx_m141 116 [l0, l1, l2, l3, some (.int x), l5, l6] S (rz_mk h ι, w) = rg Z d rx_m141 118 [l0, l1, l2, l3, some (.int x), l5, l6] (.int x :: S) (rz_mk h ι, w) := rz_s1 fun _ => rfl
theorem g141_118 : rg Z d rx_m141 118 L (.int y :: .int x :: S) (rz_mk h ι, w) = rg Z d rx_m141 119 L (.int (x * y) :: S) (rz_mk h ι, w) := rz_s1 fun _ => rfl
theorem g141_119 : rg Z d rx_m141 119 [l0, l1, l2, l3, l4, some (.int x), l6] S (rz_mk h ι, w) = rg Z d rx_m141 121 [l0, l1, l2, l3, l4, some (.int x), l6] (.int x :: S) (rz_mk h ι, w) := rz_s1 fun _ => rfl
theorem g141_121 : rg Z d rx_m141 121 L (.int y :: .int x :: S) (rz_mk h ι, w) = rg Z d rx_m141 122 L (.int (x + y) :: S) (rz_mk h ι, w) := rz_s1 fun _ => rfl
theorem g141_122 : rg Z d rx_m141 122 [l0, some (.int z), l2, l3, l4, l5, l6] (.int x :: S) (rz_mk h ι, w) = rg Z d rx_m141 123 [l0, some (.int z), some (.int x), l3, l4, l5, l6] S (rz_mk h ι, w) := rz_s1 fun _ => rfl
theorem g141_123 : rg Z d rx_m141 123 [l0, l1, l2, l3, some (.int z), some (.int x), l6] S (rz_mk h ι, w) = rg Z d rx_m141 126 [l0, l1, l2, l3, some (.int z), some (.int (x + 1)), l6] S (rz_mk h ι, w) := rz_s1 fun _ => rfl
theorem g141_126 : rg Z d rx_m141 126 L S (rz_mk h ι, w) = rg Z d rx_m141 48 L S (rz_mk h ι, w) := rz_s1 fun _ => rfl
theorem g141_129 : rg Z d rx_m141 129 [l0, l1, l2, some (.int z), some (.int x), l5, l6] S (rz_mk h ι, w) = rg Z d rx_m141 132 [l0, l1, l2, some (.int z), some (.int (x + 1)), l5, l6] S (rz_mk h ι, w) := rz_s1 fun _ => rfl
theorem g141_132 : rg Z d rx_m141 132 L S (rz_mk h ι, w) = rg Z d rx_m141 30 L S (rz_mk h ι, w) := rz_s1 fun _ => rfl
theorem g141_135 : rg Z d rx_m141 135 [l0, some (.int x), l2, l3, l4, l5, l6] S (rz_mk h ι, w) = rg Z d rx_m141 136 [l0, some (.int x), l2, l3, l4, l5, l6] (.int x :: S) (rz_mk h ι, w) := rz_s1 fun _ => rfl
theorem g141_136 : rg Z d rx_m141 136 L (.int x :: S) (rz_mk h ι, w) = if x = 0 then rg Z d rx_m141 139 L S (rz_mk h ι, w) else rg Z d rx_m141 143 L S (rz_mk h ι, w) := rz_if1 (pc := 136) (t := 143) (off := 7) (cc := .ne) (by decide) rfl
theorem g141_139 : rg Z d rx_m141 139 [l0, l1, some (.int x), l3, l4, l5, l6] S (rz_mk h ι, w) = rg Z d rx_m141 140 [l0, l1, some (.int x), l3, l4, l5, l6] (.int x :: S) (rz_mk h ι, w) := rz_s1 fun _ => rfl
theorem g141_140 : rg Z d rx_m141 140 L S (rz_mk h ι, w) = rg Z d rx_m141 144 L S (rz_mk h ι, w) := rz_s1 fun _ => rfl
theorem g141_143 : rg Z d rx_m141 143 [l0, l1, l2, some (.int x), l4, l5, l6] S (rz_mk h ι, w) = rg Z d rx_m141 144 [l0, l1, l2, some (.int x), l4, l5, l6] (.int x :: S) (rz_mk h ι, w) := rz_s1 fun _ => rfl
theorem g141_144 : rg Z d rx_m141 144 L [.int x] (rz_mk h ι, w) = some (.inl (some (.int x)), (rz_mk h ι, w)) := rz_reti rfl rfl rfl
theorem e141 : rz_f Z (d + 1) 141 [.ref t0, .int s1] σ = rg Z d rx_m141 0 [some (.ref t0), some (.int s1), none, none, none, none, none] [] σ := rz_f_eq rfl (Nat.le_of_ble_eq_true rfl)
theorem g142_0 : rg Z d rx_m142 0 [some (.ref a), l1, l2, l3, l4, l5, l6] S (rz_mk h ι, w) = rg Z d rx_m142 1 [some (.ref a), l1, l2, l3, l4, l5, l6] (.ref a :: S) (rz_mk h ι, w) := rz_s1 fun _ => rfl
theorem g142_1 : rg Z d rx_m142 1 [l0, some (.int x), l2, l3, l4, l5, l6] S (rz_mk h ι, w) = rg Z d rx_m142 2 [l0, some (.int x), l2, l3, l4, l5, l6] (.int x :: S) (rz_mk h ι, w) := rz_s1 fun _ => rfl
theorem g142_2 : rg Z d rx_m142 2 L S (rz_mk h ι, w) = rg Z d rx_m142 3 L (.int 0 :: S) (rz_mk h ι, w) := rz_s1 fun _ => rfl
theorem g142_3 : rg Z d rx_m142 3 L S (rz_mk h ι, w) = rg Z d rx_m142 4 L (.int 1 :: S) (rz_mk h ι, w) := rz_s1 fun _ => rfl
theorem g142_4 : rg Z d rx_m142 4 L (v3 :: v2 :: v1 :: [.ref t0]) (rz_mk h ι, w) = rz_k true (rz_f Z d 161 [v1, v2, v3] (rz_mk h ι, w)) (fun v σ' => rg Z d rx_m142 7 L (v.toList ++ [.ref t0]) σ') := rz_cs (pc := 4) (n := 3) (mi := 161) (S := v3 :: v2 :: v1 :: [.ref t0]) (rest := [.ref t0]) rfl rfl (Nat.le_of_ble_eq_true rfl) (Nat.le_of_ble_eq_true rfl)
theorem g142_7 (c : rz_oc h a 11) : rg Z d rx_m142 7 L (v1 :: .ref a :: []) (rz_mk h ι, w) = rz_k true (rz_f Z d 162 [.ref a, v1] (rz_mk h ι, w)) (fun v σ' => rg Z d rx_m142 10 L (v.toList ++ []) σ') := rz_cv (pc := 7) (n := 1) (mi := 162) (S := v1 :: .ref a :: []) (rest := []) rfl rfl (Nat.le_of_ble_eq_true rfl) (Nat.le_of_ble_eq_true rfl) c
theorem g142_10 : rg Z d rx_m142 10 [some (.ref a), l1, l2, l3, l4, l5, l6] S (rz_mk h ι, w) = rg Z d rx_m142 11 [some (.ref a), l1, l2, l3, l4, l5, l6] (.ref a :: S) (rz_mk h ι, w) := rz_s1 fun _ => rfl
theorem g142_11 (c : rz_fR h a 11 11) : rg Z d rx_m142 11 L (.ref a :: S) (rz_mk h ι, w) = rg Z d rx_m142 14 L (rz_rv h a 11 :: S) (rz_mk h ι, w) := rz_gR rfl (by decide) c
theorem g142_14 (c : rz_oc h a 8) : rg Z d rx_m142 14 L (.ref a :: []) (rz_mk h ι, w) = rz_k true (rz_f Z d 69 [.ref a] (rz_mk h ι, w)) (fun v σ' => rg Z d rx_m142 17 L (v.toList ++ []) σ') := rz_cv (pc := 14) (n := 0) (mi := 69) (S := .ref a :: []) (rest := []) rfl rfl (Nat.le_of_ble_eq_true rfl) (Nat.le_of_ble_eq_true rfl) c
theorem g142_17 : rg Z d rx_m142 17 L S (rz_mk h ι, w) = rg Z d rx_m142 18 L (.int 2 :: S) (rz_mk h ι, w) := rz_s1 fun _ => rfl
theorem g142_18 : rg Z d rx_m142 18 L (.int y :: .int x :: S) (rz_mk h ι, w) = if x < y then rg Z d rx_m142 21 L S (rz_mk h ι, w) else rg Z d rx_m142 23 L S (rz_mk h ι, w) := rz_if2 (pc := 18) (t := 23) (off := 5) (cc := .ge) (by decide) rfl
theorem g142_21 : rg Z d rx_m142 21 L S (rz_mk h ι, w) = rg Z d rx_m142 22 L (.int (-1) :: S) (rz_mk h ι, w) := rz_s1 fun _ => rfl
theorem g142_22 : rg Z d rx_m142 22 L [.int x] (rz_mk h ι, w) = some (.inl (some (.int x)), (rz_mk h ι, w)) := rz_reti rfl rfl rfl
theorem g142_23 : rg Z d rx_m142 23 L S (rz_mk h ι, w) = rg Z d rx_m142 24 L (.int (-1) :: S) (rz_mk h ι, w) := rz_s1 fun _ => rfl
theorem g142_24 : rg Z d rx_m142 24 [l0, some (.int z), l2, l3, l4, l5, l6] (.int x :: S) (rz_mk h ι, w) = rg Z d rx_m142 25 [l0, some (.int z), some (.int x), l3, l4, l5, l6] S (rz_mk h ι, w) := rz_s1 fun _ => rfl
theorem g142_25 : rg Z d rx_m142 25 L S (rz_mk h ι, w) = rg Z d rx_m142 27 L (.int 100 :: S) (rz_mk h ι, w) := rz_s1 fun _ => rfl
theorem g142_27 : rg Z d rx_m142 27 [l0, l1, some (.int z), l3, l4, l5, l6] (.int x :: S) (rz_mk h ι, w) = rg Z d rx_m142 28 [l0, l1, some (.int z), some (.int x), l4, l5, l6] S (rz_mk h ι, w) := rz_s1 fun _ => rfl
theorem g142_28 : rg Z d rx_m142 28 L S (rz_mk h ι, w) = rg Z d rx_m142 29 L (.int 0 :: S) (rz_mk h ι, w) := rz_s1 fun _ => rfl
theorem g142_29 : rg Z d rx_m142 29 [l0, l1, l2, some (.int z), l4, l5, l6] (.int x :: S) (rz_mk h ι, w) = rg Z d rx_m142 31 [l0, l1, l2, some (.int z), some (.int x), l5, l6] S (rz_mk h ι, w) := rz_s1 fun _ => rfl
theorem g142_31 : rg Z d rx_m142 31 [l0, l1, l2, l3, some (.int x), l5, l6] S (rz_mk h ι, w) = rg Z d rx_m142 33 [l0, l1, l2, l3, some (.int x), l5, l6] (.int x :: S) (rz_mk h ι, w) := rz_s1 fun _ => rfl
theorem g142_33 : rg Z d rx_m142 33 [some (.ref a), l1, l2, l3, l4, l5, l6] S (rz_mk h ι, w) = rg Z d rx_m142 34 [some (.ref a), l1, l2, l3, l4, l5, l6] (.ref a :: S) (rz_mk h ι, w) := rz_s1 fun _ => rfl
theorem g142_34 (c : rz_fR h a 11 11) : rg Z d rx_m142 34 L (.ref a :: S) (rz_mk h ι, w) = rg Z d rx_m142 37 L (rz_rv h a 11 :: S) (rz_mk h ι, w) := rz_gR rfl (by decide) c
theorem g142_37 (c : rz_fI h a 8 3) : rg Z d rx_m142 37 L (.ref a :: S) (rz_mk h ι, w) = rg Z d rx_m142 40 L (.int (ι a 3) :: S) (rz_mk h ι, w) := rz_gI rfl (by decide) c
theorem g142_40 : rg Z d rx_m142 40 L (.int y :: .int x :: S) (rz_mk h ι, w) = if x < y then rg Z d rx_m142 43 L S (rz_mk h ι, w) else rg Z d rx_m142 119 L S (rz_mk h ι, w) := rz_if2 (pc := 40) (t := 119) (off := 79) (cc := .ge) (by decide) rfl
theorem g142_43 : rg Z d rx_m142 43 [some (.ref a), l1, l2, l3, l4, l5, l6] S (rz_mk h ι, w) = rg Z d rx_m142 44 [some (.ref a), l1, l2, l3, l4, l5, l6] (.ref a :: S) (rz_mk h ι, w) := rz_s1 fun _ => rfl
theorem g142_44 (c : rz_fR h a 11 11) : rg Z d rx_m142 44 L (.ref a :: S) (rz_mk h ι, w) = rg Z d rx_m142 47 L (rz_rv h a 11 :: S) (rz_mk h ι, w) := rz_gR rfl (by decide) c
theorem g142_47 : rg Z d rx_m142 47 [l0, l1, l2, l3, some (.int x), l5, l6] S (rz_mk h ι, w) = rg Z d rx_m142 49 [l0, l1, l2, l3, some (.int x), l5, l6] (.int x :: S) (rz_mk h ι, w) := rz_s1 fun _ => rfl
theorem g142_49 (c : rz_oc h a 8) : rg Z d rx_m142 49 L (v1 :: .ref a :: []) (rz_mk h ι, w) = rz_k true (rz_f Z d 68 [.ref a, v1] (rz_mk h ι, w)) (fun v σ' => rg Z d rx_m142 52 L (v.toList ++ []) σ') := rz_cv (pc := 49) (n := 1) (mi := 68) (S := v1 :: .ref a :: []) (rest := []) rfl rfl (Nat.le_of_ble_eq_true rfl) (Nat.le_of_ble_eq_true rfl) c
theorem g142_52 : rg Z d rx_m142 52 L (.int x :: S) (rz_mk h ι, w) = if x = 0 then rg Z d rx_m142 71 L S (rz_mk h ι, w) else rg Z d rx_m142 55 L S (rz_mk h ι, w) := rz_if1 (pc := 52) (t := 71) (off := 19) (cc := .eq) (by decide) rfl
theorem g142_55 : rg Z d rx_m142 55 [some (.ref a), l1, l2, l3, l4, l5, l6] S (rz_mk h ι, w) = rg Z d rx_m142 56 [some (.ref a), l1, l2, l3, l4, l5, l6] (.ref a :: S) (rz_mk h ι, w) := rz_s1 fun _ => rfl
theorem g142_56 (c : rz_fR h a 11 10) : rg Z d rx_m142 56 L (.ref a :: S) (rz_mk h ι, w) = rg Z d rx_m142 59 L (rz_rv h a 10 :: S) (rz_mk h ι, w) := rz_gR rfl (by decide) c
theorem g142_59 : rg Z d rx_m142 59 [some (.ref a), l1, l2, l3, l4, l5, l6] S (rz_mk h ι, w) = rg Z d rx_m142 60 [some (.ref a), l1, l2, l3, l4, l5, l6] (.ref a :: S) (rz_mk h ι, w) := rz_s1 fun _ => rfl
theorem g142_60 (c : rz_fR h a 11 11) : rg Z d rx_m142 60 L (.ref a :: S) (rz_mk h ι, w) = rg Z d rx_m142 63 L (rz_rv h a 11 :: S) (rz_mk h ι, w) := rz_gR rfl (by decide) c
theorem g142_63 : rg Z d rx_m142 63 [l0, l1, l2, l3, some (.int x), l5, l6] S (rz_mk h ι, w) = rg Z d rx_m142 65 [l0, l1, l2, l3, some (.int x), l5, l6] (.int x :: S) (rz_mk h ι, w) := rz_s1 fun _ => rfl
theorem g142_65 (c : rz_oc h a 5) : rg Z d rx_m142 65 L (v2 :: v1 :: .ref a :: []) (rz_mk h ι, w) = rz_k true (rz_f Z d 51 [.ref a, v1, v2] (rz_mk h ι, w)) (fun v σ' => rg Z d rx_m142 68 L (v.toList ++ []) σ') := rz_cv (pc := 65) (n := 2) (mi := 51) (S := v2 :: v1 :: .ref a :: []) (rest := []) rfl rfl (Nat.le_of_ble_eq_true rfl) (Nat.le_of_ble_eq_true rfl) c
theorem g142_68 : rg Z d rx_m142 68 L S (rz_mk h ι, w) = rg Z d rx_m142 72 L S (rz_mk h ι, w) := rz_s1 fun _ => rfl
theorem g142_71 : rg Z d rx_m142 71 L S (rz_mk h ι, w) = rg Z d rx_m142 72 L (.int (-1) :: S) (rz_mk h ι, w) := rz_s1 fun _ => rfl
theorem g142_72 : rg Z d rx_m142 72 [l0, l1, l2, l3, some (.int z), l5, l6] (.int x :: S) (rz_mk h ι, w) = rg Z d rx_m142 74 [l0, l1, l2, l3, some (.int z), some (.int x), l6] S (rz_mk h ι, w) := rz_s1 fun _ => rfl
theorem g142_74 : rg Z d rx_m142 74 [l0, l1, l2, l3, l4, some (.int x), l6] S (rz_mk h ι, w) = rg Z d rx_m142 76 [l0, l1, l2, l3, l4, some (.int x), l6] (.int x :: S) (rz_mk h ι, w) := rz_s1 fun _ => rfl
theorem g142_76 : rg Z d rx_m142 76 L S (rz_mk h ι, w) = rg Z d rx_m142 77 L (.int (-1) :: S) (rz_mk h ι, w) := rz_s1 fun _ => rfl
theorem g142_77 : rg Z d rx_m142 77 L (.int y :: .int x :: S) (rz_mk h ι, w) = if x = y then rg Z d rx_m142 80 L S (rz_mk h ι, w) else rg Z d rx_m142 84 L S (rz_mk h ι, w) := rz_if2 (pc := 77) (t := 84) (off := 7) (cc := .ne) (by decide) rfl
theorem g142_80 : rg Z d rx_m142 80 [l0, l1, l2, some (.int x), l4, l5, l6] S (rz_mk h ι, w) = rg Z d rx_m142 81 [l0, l1, l2, some (.int x), l4, l5, l6] (.int x :: S) (rz_mk h ι, w) := rz_s1 fun _ => rfl
theorem g142_81 : rg Z d rx_m142 81 L S (rz_mk h ι, w) = rg Z d rx_m142 99 L S (rz_mk h ι, w) := rz_s1 fun _ => rfl
theorem g142_84 : rg Z d rx_m142 84 [some (.ref a), l1, l2, l3, l4, l5, l6] S (rz_mk h ι, w) = rg Z d rx_m142 85 [some (.ref a), l1, l2, l3, l4, l5, l6] (.ref a :: S) (rz_mk h ι, w) := rz_s1 fun _ => rfl
theorem g142_85 (c : rz_fR h a 11 10) : rg Z d rx_m142 85 L (.ref a :: S) (rz_mk h ι, w) = rg Z d rx_m142 88 L (rz_rv h a 10 :: S) (rz_mk h ι, w) := rz_gR rfl (by decide) c
theorem g142_88 : rg Z d rx_m142 88 [some (.ref a), l1, l2, l3, l4, l5, l6] S (rz_mk h ι, w) = rg Z d rx_m142 89 [some (.ref a), l1, l2, l3, l4, l5, l6] (.ref a :: S) (rz_mk h ι, w) := rz_s1 fun _ => rfl
theorem g142_89 (c : rz_fR h a 11 11) : rg Z d rx_m142 89 L (.ref a :: S) (rz_mk h ι, w) = rg Z d rx_m142 92 L (rz_rv h a 11 :: S) (rz_mk h ι, w) := rz_gR rfl (by decide) c
theorem g142_92 : rg Z d rx_m142 92 [l0, l1, l2, l3, l4, some (.int x), l6] S (rz_mk h ι, w) = rg Z d rx_m142 94 [l0, l1, l2, l3, l4, some (.int x), l6] (.int x :: S) (rz_mk h ι, w) := rz_s1 fun _ => rfl
theorem g142_94 : rg Z d rx_m142 94 [l0, l1, l2, l3, some (.int x), l5, l6] S (rz_mk h ι, w) = rg Z d rx_m142 96 [l0, l1, l2, l3, some (.int x), l5, l6] (.int x :: S) (rz_mk h ι, w) := rz_s1 fun _ => rfl
theorem g142_96 (c : rz_oc h a 5) : rg Z d rx_m142 96 L (v3 :: v2 :: v1 :: .ref a :: []) (rz_mk h ι, w) = rz_k true (rz_f Z d 48 [.ref a, v1, v2, v3] (rz_mk h ι, w)) (fun v σ' => rg Z d rx_m142 99 L (v.toList ++ []) σ') := rz_cv (pc := 96) (n := 3) (mi := 48) (S := v3 :: v2 :: v1 :: .ref a :: []) (rest := []) rfl rfl (Nat.le_of_ble_eq_true rfl) (Nat.le_of_ble_eq_true rfl) c
theorem g142_99 : rg Z d rx_m142 99 [l0, l1, l2, l3, l4, some (.int z), l6] (.int x :: S) (rz_mk h ι, w) = rg Z d rx_m142 101 [l0, l1, l2, l3, l4, some (.int z), some (.int x)] S (rz_mk h ι, w) := rz_s1 fun _ => rfl
theorem g142_101 : rg Z d rx_m142 101 [l0, l1, l2, l3, l4, l5, some (.int x)] S (rz_mk h ι, w) = rg Z d rx_m142 103 [l0, l1, l2, l3, l4, l5, some (.int x)] (.int x :: S) (rz_mk h ι, w) := rz_s1 fun _ => rfl
theorem g142_103 : rg Z d rx_m142 103 [l0, l1, l2, some (.int x), l4, l5, l6] S (rz_mk h ι, w) = rg Z d rx_m142 104 [l0, l1, l2, some (.int x), l4, l5, l6] (.int x :: S) (rz_mk h ι, w) := rz_s1 fun _ => rfl
theorem g142_104 : rg Z d rx_m142 104 L (.int y :: .int x :: S) (rz_mk h ι, w) = if x < y then rg Z d rx_m142 107 L S (rz_mk h ι, w) else rg Z d rx_m142 113 L S (rz_mk h ι, w) := rz_if2 (pc := 104) (t := 113) (off := 9) (cc := .ge) (by decide) rfl
theorem g142_107 : rg Z d rx_m142 107 [l0, l1, l2, l3, l4, l5, some (.int x)] S (rz_mk h ι, w) = rg Z d rx_m142 109 [l0, l1, l2, l3, l4, l5, some (.int x)] (.int x :: S) (rz_mk h ι, w) := rz_s1 fun _ => rfl
theorem g142_109 : rg Z d rx_m142 109 [l0, l1, some (.int z), l3, l4, l5, l6] (.int x :: S) (rz_mk h ι, w) = rg Z d rx_m142 110 [l0, l1, some (.int z), some (.int x), l4, l5, l6] S (rz_mk h ι, w) := rz_s1 fun _ => rfl
theorem g142_110 : rg Z d rx_m142 110 [l0, l1, l2, l3, some (.int x), l5, l6] S (rz_mk h ι, w) = rg Z d rx_m142 112 [l0, l1, l2, l3, some (.int x), l5, l6] (.int x :: S) (rz_mk h ι, w) := rz_s1 fun _ => rfl
theorem g142_112 : rg Z d rx_m142 112 [l0, some (.int z), l2, l3, l4, l5, l6] (.int x :: S) (rz_mk h ι, w) = rg Z d rx_m142 113 [l0, some (.int z), some (.int x), l3, l4, l5, l6] S (rz_mk h ι, w) := rz_s1 fun _ => rfl
theorem g142_113 : rg Z d rx_m142 113 [l0, l1, l2, some (.int z), some (.int x), l5, l6] S (rz_mk h ι, w) = rg Z d rx_m142 116 [l0, l1, l2, some (.int z), some (.int (x + 1)), l5, l6] S (rz_mk h ι, w) := rz_s1 fun _ => rfl
theorem g142_116 : rg Z d rx_m142 116 L S (rz_mk h ι, w) = rg Z d rx_m142 31 L S (rz_mk h ι, w) := rz_s1 fun _ => rfl
theorem g142_119 : rg Z d rx_m142 119 [l0, some (.int x), l2, l3, l4, l5, l6] S (rz_mk h ι, w) = rg Z d rx_m142 120 [l0, some (.int x), l2, l3, l4, l5, l6] (.int x :: S) (rz_mk h ι, w) := rz_s1 fun _ => rfl
theorem g142_120 : rg Z d rx_m142 120 L (.int x :: S) (rz_mk h ι, w) = if x = 0 then rg Z d rx_m142 123 L S (rz_mk h ι, w) else rg Z d rx_m142 127 L S (rz_mk h ι, w) := rz_if1 (pc := 120) (t := 127) (off := 7) (cc := .ne) (by decide) rfl
theorem g142_123 : rg Z d rx_m142 123 [l0, l1, some (.int x), l3, l4, l5, l6] S (rz_mk h ι, w) = rg Z d rx_m142 124 [l0, l1, some (.int x), l3, l4, l5, l6] (.int x :: S) (rz_mk h ι, w) := rz_s1 fun _ => rfl
theorem g142_124 : rg Z d rx_m142 124 L S (rz_mk h ι, w) = rg Z d rx_m142 128 L S (rz_mk h ι, w) := rz_s1 fun _ => rfl
theorem g142_127 : rg Z d rx_m142 127 [l0, l1, l2, some (.int x), l4, l5, l6] S (rz_mk h ι, w) = rg Z d rx_m142 128 [l0, l1, l2, some (.int x), l4, l5, l6] (.int x :: S) (rz_mk h ι, w) := rz_s1 fun _ => rfl
theorem g142_128 : rg Z d rx_m142 128 L [.int x] (rz_mk h ι, w) = some (.inl (some (.int x)), (rz_mk h ι, w)) := rz_reti rfl rfl rfl
theorem e142 : rz_f Z (d + 1) 142 [.ref t0, .int s1] σ = rg Z d rx_m142 0 [some (.ref t0), some (.int s1), none, none, none, none, none] [] σ := rz_f_eq rfl (Nat.le_of_ble_eq_true rfl)
theorem g143_0 : rg Z d rx_m143 0 [some (.ref a), l1, l2, l3, l4, l5, l6] S (rz_mk h ι, w) = rg Z d rx_m143 1 [some (.ref a), l1, l2, l3, l4, l5, l6] (.ref a :: S) (rz_mk h ι, w) := rz_s1 fun _ => rfl
theorem g143_1 : rg Z d rx_m143 1 [l0, some (.int x), l2, l3, l4, l5, l6] S (rz_mk h ι, w) = rg Z d rx_m143 2 [l0, some (.int x), l2, l3, l4, l5, l6] (.int x :: S) (rz_mk h ι, w) := rz_s1 fun _ => rfl
theorem g143_2 : rg Z d rx_m143 2 L S (rz_mk h ι, w) = rg Z d rx_m143 3 L (.int 0 :: S) (rz_mk h ι, w) := rz_s1 fun _ => rfl
theorem g143_3 : rg Z d rx_m143 3 L S (rz_mk h ι, w) = rg Z d rx_m143 5 L (.int 12 :: S) (rz_mk h ι, w) := rz_s1 fun _ => rfl
theorem g143_5 : rg Z d rx_m143 5 L (v3 :: v2 :: v1 :: [.ref t0]) (rz_mk h ι, w) = rz_k true (rz_f Z d 161 [v1, v2, v3] (rz_mk h ι, w)) (fun v σ' => rg Z d rx_m143 8 L (v.toList ++ [.ref t0]) σ') := rz_cs (pc := 5) (n := 3) (mi := 161) (S := v3 :: v2 :: v1 :: [.ref t0]) (rest := [.ref t0]) rfl rfl (Nat.le_of_ble_eq_true rfl) (Nat.le_of_ble_eq_true rfl)
theorem g143_8 : rg Z d rx_m143 8 L (.int x :: S) (rz_mk h ι, w) = if x = 0 then rg Z d rx_m143 45 L S (rz_mk h ι, w) else rg Z d rx_m143 11 L S (rz_mk h ι, w) := rz_if1 (pc := 8) (t := 45) (off := 37) (cc := .eq) (by decide) rfl
theorem g143_11 : rg Z d rx_m143 11 [l0, l1, some (.int x), l3, l4, l5, l6] S (rz_mk h ι, w) = rg Z d rx_m143 12 [l0, l1, some (.int x), l3, l4, l5, l6] (.int x :: S) (rz_mk h ι, w) := rz_s1 fun _ => rfl
theorem g143_12 : rg Z d rx_m143 12 L S (rz_mk h ι, w) = rg Z d rx_m143 13 L (.int 0 :: S) (rz_mk h ι, w) := rz_s1 fun _ => rfl
theorem g143_13 : rg Z d rx_m143 13 L S (rz_mk h ι, w) = rg Z d rx_m143 15 L (.int 13 :: S) (rz_mk h ι, w) := rz_s1 fun _ => rfl
theorem g143_15 : rg Z d rx_m143 15 L (v3 :: v2 :: v1 :: [.ref t0]) (rz_mk h ι, w) = rz_k true (rz_f Z d 161 [v1, v2, v3] (rz_mk h ι, w)) (fun v σ' => rg Z d rx_m143 18 L (v.toList ++ [.ref t0]) σ') := rz_cs (pc := 15) (n := 3) (mi := 161) (S := v3 :: v2 :: v1 :: [.ref t0]) (rest := [.ref t0]) rfl rfl (Nat.le_of_ble_eq_true rfl) (Nat.le_of_ble_eq_true rfl)
theorem g143_18 : rg Z d rx_m143 18 L (.int x :: S) (rz_mk h ι, w) = if x = 0 then rg Z d rx_m143 45 L S (rz_mk h ι, w) else rg Z d rx_m143 21 L S (rz_mk h ι, w) := rz_if1 (pc := 18) (t := 45) (off := 27) (cc := .eq) (by decide) rfl
theorem g143_21 : rg Z d rx_m143 21 [l0, l1, l2, some (.int x), l4, l5, l6] S (rz_mk h ι, w) = rg Z d rx_m143 22 [l0, l1, l2, some (.int x), l4, l5, l6] (.int x :: S) (rz_mk h ι, w) := rz_s1 fun _ => rfl
theorem g143_22 : rg Z d rx_m143 22 L S (rz_mk h ι, w) = rg Z d rx_m143 23 L (.int 0 :: S) (rz_mk h ι, w) := rz_s1 fun _ => rfl
theorem g143_23 : rg Z d rx_m143 23 L S (rz_mk h ι, w) = rg Z d rx_m143 25 L (.int 16 :: S) (rz_mk h ι, w) := rz_s1 fun _ => rfl
theorem g143_25 : rg Z d rx_m143 25 L (v3 :: v2 :: v1 :: [.ref t0]) (rz_mk h ι, w) = rz_k true (rz_f Z d 161 [v1, v2, v3] (rz_mk h ι, w)) (fun v σ' => rg Z d rx_m143 28 L (v.toList ++ [.ref t0]) σ') := rz_cs (pc := 25) (n := 3) (mi := 161) (S := v3 :: v2 :: v1 :: [.ref t0]) (rest := [.ref t0]) rfl rfl (Nat.le_of_ble_eq_true rfl) (Nat.le_of_ble_eq_true rfl)
theorem g143_28 : rg Z d rx_m143 28 L (.int x :: S) (rz_mk h ι, w) = if x = 0 then rg Z d rx_m143 45 L S (rz_mk h ι, w) else rg Z d rx_m143 31 L S (rz_mk h ι, w) := rz_if1 (pc := 28) (t := 45) (off := 17) (cc := .eq) (by decide) rfl
theorem g143_31 : rg Z d rx_m143 31 [l0, l1, l2, l3, some (.int x), l5, l6] S (rz_mk h ι, w) = rg Z d rx_m143 33 [l0, l1, l2, l3, some (.int x), l5, l6] (.int x :: S) (rz_mk h ι, w) := rz_s1 fun _ => rfl
theorem g143_33 : rg Z d rx_m143 33 L S (rz_mk h ι, w) = rg Z d rx_m143 34 L (.int 0 :: S) (rz_mk h ι, w) := rz_s1 fun _ => rfl
theorem g143_34 : rg Z d rx_m143 34 L S (rz_mk h ι, w) = rg Z d rx_m143 35 L (.int 1 :: S) (rz_mk h ι, w) := rz_s1 fun _ => rfl
theorem g143_35 : rg Z d rx_m143 35 L (v3 :: v2 :: v1 :: [.ref t0]) (rz_mk h ι, w) = rz_k true (rz_f Z d 161 [v1, v2, v3] (rz_mk h ι, w)) (fun v σ' => rg Z d rx_m143 38 L (v.toList ++ [.ref t0]) σ') := rz_cs (pc := 35) (n := 3) (mi := 161) (S := v3 :: v2 :: v1 :: [.ref t0]) (rest := [.ref t0]) rfl rfl (Nat.le_of_ble_eq_true rfl) (Nat.le_of_ble_eq_true rfl)
theorem g143_38 : rg Z d rx_m143 38 L (.int x :: S) (rz_mk h ι, w) = if x = 0 then rg Z d rx_m143 45 L S (rz_mk h ι, w) else rg Z d rx_m143 41 L S (rz_mk h ι, w) := rz_if1 (pc := 38) (t := 45) (off := 7) (cc := .eq) (by decide) rfl
theorem g143_41 : rg Z d rx_m143 41 L S (rz_mk h ι, w) = rg Z d rx_m143 42 L (.int 1 :: S) (rz_mk h ι, w) := rz_s1 fun _ => rfl
theorem g143_42 : rg Z d rx_m143 42 L S (rz_mk h ι, w) = rg Z d rx_m143 46 L S (rz_mk h ι, w) := rz_s1 fun _ => rfl
theorem g143_45 : rg Z d rx_m143 45 L S (rz_mk h ι, w) = rg Z d rx_m143 46 L (.int 0 :: S) (rz_mk h ι, w) := rz_s1 fun _ => rfl
theorem g143_46 (c : rz_oc h a 11) : rg Z d rx_m143 46 L (v1 :: .ref a :: []) (rz_mk h ι, w) = rz_k true (rz_f Z d 162 [.ref a, v1] (rz_mk h ι, w)) (fun v σ' => rg Z d rx_m143 49 L (v.toList ++ []) σ') := rz_cv (pc := 46) (n := 1) (mi := 162) (S := v1 :: .ref a :: []) (rest := []) rfl rfl (Nat.le_of_ble_eq_true rfl) (Nat.le_of_ble_eq_true rfl) c
theorem g143_49 : rg Z d rx_m143 49 [l0, some (.int x), l2, l3, l4, l5, l6] S (rz_mk h ι, w) = rg Z d rx_m143 50 [l0, some (.int x), l2, l3, l4, l5, l6] (.int x :: S) (rz_mk h ι, w) := rz_s1 fun _ => rfl
theorem g143_50 : rg Z d rx_m143 50 [l0, l1, some (.int x), l3, l4, l5, l6] S (rz_mk h ι, w) = rg Z d rx_m143 51 [l0, l1, some (.int x), l3, l4, l5, l6] (.int x :: S) (rz_mk h ι, w) := rz_s1 fun _ => rfl
theorem g143_51 : rg Z d rx_m143 51 [l0, l1, l2, some (.int x), l4, l5, l6] S (rz_mk h ι, w) = rg Z d rx_m143 52 [l0, l1, l2, some (.int x), l4, l5, l6] (.int x :: S) (rz_mk h ι, w) := rz_s1 fun _ => rfl
theorem g143_52 : rg Z d rx_m143 52 L (v3 :: v2 :: v1 :: []) (rz_mk h ι, w) = rz_k true (rz_f Z d 169 [v1, v2, v3] (rz_mk h ι, w)) (fun v σ' => rg Z d rx_m143 55 L (v.toList ++ []) σ') := rz_cs (pc := 52) (n := 3) (mi := 169) (S := v3 :: v2 :: v1 :: []) (rest := []) rfl rfl (Nat.le_of_ble_eq_true rfl) (Nat.le_of_ble_eq_true rfl)
theorem g143_55 : rg Z d rx_m143 55 [l0, l1, l2, l3, some (.int z), l5, l6] (.long q :: S) (rz_mk h ι, w) = rg Z d rx_m143 57 [l0, l1, l2, l3, some (.int z), some (.long q), none] S (rz_mk h ι, w) := rz_s1 fun _ => rfl
theorem g143_57 : rg Z d rx_m143 57 [l0, l1, l2, l3, l4, some (.long q), l6] S (rz_mk h ι, w) = rg Z d rx_m143 59 [l0, l1, l2, l3, l4, some (.long q), l6] (.long q :: S) (rz_mk h ι, w) := rz_s1 fun _ => rfl
theorem g143_59 : rg Z d rx_m143 59 L S (rz_mk h ι, w) = rg Z d rx_m143 60 L (.long 0 :: S) (rz_mk h ι, w) := rz_s1 fun _ => rfl
theorem g143_60 : rg Z d rx_m143 60 L (.long q :: .long p :: S) (rz_mk h ι, w) = rg Z d rx_m143 61 L (.int (lg_cmp p q) :: S) (rz_mk h ι, w) := rz_s1 fun _ => rfl
theorem g143_61 : rg Z d rx_m143 61 L (.int x :: S) (rz_mk h ι, w) = if x = 0 then rg Z d rx_m143 64 L S (rz_mk h ι, w) else rg Z d rx_m143 68 L S (rz_mk h ι, w) := rz_if1 (pc := 61) (t := 68) (off := 7) (cc := .ne) (by decide) rfl
theorem g143_64 : rg Z d rx_m143 64 [l0, l1, l2, l3, some (.int x), l5, l6] S (rz_mk h ι, w) = rg Z d rx_m143 66 [l0, l1, l2, l3, some (.int x), l5, l6] (.int x :: S) (rz_mk h ι, w) := rz_s1 fun _ => rfl
theorem g143_66 : rg Z d rx_m143 66 L (.int x :: S) (rz_mk h ι, w) = rg Z d rx_m143 67 L (.long x.toInt64 :: S) (rz_mk h ι, w) := rz_s1 fun _ => rfl
theorem g143_67 : rg Z d rx_m143 67 L [.long q] (rz_mk h ι, w) = some (.inl (some (.long q)), (rz_mk h ι, w)) := rz_r1 fun _ => rfl
theorem g143_68 : rg Z d rx_m143 68 [l0, l1, l2, l3, some (.int x), l5, l6] S (rz_mk h ι, w) = rg Z d rx_m143 70 [l0, l1, l2, l3, some (.int x), l5, l6] (.int x :: S) (rz_mk h ι, w) := rz_s1 fun _ => rfl
theorem g143_70 : rg Z d rx_m143 70 L (.int x :: S) (rz_mk h ι, w) = if x = 0 then rg Z d rx_m143 73 L S (rz_mk h ι, w) else rg Z d rx_m143 78 L S (rz_mk h ι, w) := rz_if1 (pc := 70) (t := 78) (off := 8) (cc := .ne) (by decide) rfl
theorem g143_73 : rg Z d rx_m143 73 [l0, l1, l2, l3, l4, some (.long q), l6] S (rz_mk h ι, w) = rg Z d rx_m143 75 [l0, l1, l2, l3, l4, some (.long q), l6] (.long q :: S) (rz_mk h ι, w) := rz_s1 fun _ => rfl
theorem g143_75 : rg Z d rx_m143 75 L S (rz_mk h ι, w) = rg Z d rx_m143 83 L S (rz_mk h ι, w) := rz_s1 fun _ => rfl
theorem g143_78 : rg Z d rx_m143 78 L S (rz_mk h ι, w) = rg Z d rx_m143 79 L (.long 1 :: S) (rz_mk h ι, w) := rz_s1 fun _ => rfl
theorem g143_79 : rg Z d rx_m143 79 L S (rz_mk h ι, w) = rg Z d rx_m143 80 L (.int 4 :: S) (rz_mk h ι, w) := rz_s1 fun _ => rfl
theorem g143_80 : rg Z d rx_m143 80 [l0, some (.int x), l2, l3, l4, l5, l6] S (rz_mk h ι, w) = rg Z d rx_m143 81 [l0, some (.int x), l2, l3, l4, l5, l6] (.int x :: S) (rz_mk h ι, w) := rz_s1 fun _ => rfl
theorem g143_81 : rg Z d rx_m143 81 L (.int y :: .int x :: S) (rz_mk h ι, w) = rg Z d rx_m143 82 L (.int (x * y) :: S) (rz_mk h ι, w) := rz_s1 fun _ => rfl
theorem g143_82 : rg Z d rx_m143 82 L (.int x :: .long p :: S) (rz_mk h ι, w) = rg Z d rx_m143 83 L (.long (p <<< (x.toInt64 &&& 63)) :: S) (rz_mk h ι, w) := rz_s1 fun _ => rfl
theorem g143_83 : rg Z d rx_m143 83 [l0, l1, l2, l3, l4, some (.long q), l6] S (rz_mk h ι, w) = rg Z d rx_m143 85 [l0, l1, l2, l3, l4, some (.long q), l6] (.long q :: S) (rz_mk h ι, w) := rz_s1 fun _ => rfl
theorem g143_85 : rg Z d rx_m143 85 L (v1 :: [.long q0]) (rz_mk h ι, w) = rz_k true (rz_f Z d 291 [v1] (rz_mk h ι, w)) (fun v σ' => rg Z d rx_m143 88 L (v.toList ++ [.long q0]) σ') := rz_cs (pc := 85) (n := 1) (mi := 291) (S := v1 :: [.long q0]) (rest := [.long q0]) rfl rfl (Nat.le_of_ble_eq_true rfl) (Nat.le_of_ble_eq_true rfl)
theorem g143_88 : rg Z d rx_m143 88 L (.int x :: .long p :: S) (rz_mk h ι, w) = rg Z d rx_m143 89 L (.long (p >>> (x.toInt64 &&& 63)) :: S) (rz_mk h ι, w) := rz_s1 fun _ => rfl
theorem g143_89 : rg Z d rx_m143 89 L [.long q] (rz_mk h ι, w) = some (.inl (some (.long q)), (rz_mk h ι, w)) := rz_r1 fun _ => rfl
theorem e143 : rz_f Z (d + 1) 143 [.ref t0, .int s1, .int s2, .int s3, .int s4] σ = rg Z d rx_m143 0 [some (.ref t0), some (.int s1), some (.int s2), some (.int s3), some (.int s4), none, none] [] σ := rz_f_eq rfl (Nat.le_of_ble_eq_true rfl)
theorem g144_0 : rg Z d rx_m144 0 [some (.ref a), l1, l2, l3, l4, l5, l6, l7, l8, l9] S (rz_mk h ι, w) = rg Z d rx_m144 1 [some (.ref a), l1, l2, l3, l4, l5, l6, l7, l8, l9] (.ref a :: S) (rz_mk h ι, w) := rz_s1 fun _ => rfl
theorem g144_1 : rg Z d rx_m144 1 [l0, some (.int x), l2, l3, l4, l5, l6, l7, l8, l9] S (rz_mk h ι, w) = rg Z d rx_m144 2 [l0, some (.int x), l2, l3, l4, l5, l6, l7, l8, l9] (.int x :: S) (rz_mk h ι, w) := rz_s1 fun _ => rfl
theorem g144_2 : rg Z d rx_m144 2 L S (rz_mk h ι, w) = rg Z d rx_m144 3 L (.int 0 :: S) (rz_mk h ι, w) := rz_s1 fun _ => rfl
theorem g144_3 : rg Z d rx_m144 3 L S (rz_mk h ι, w) = rg Z d rx_m144 5 L (.int 99 :: S) (rz_mk h ι, w) := rz_s1 fun _ => rfl
theorem g144_5 : rg Z d rx_m144 5 L (v3 :: v2 :: v1 :: [.ref t0]) (rz_mk h ι, w) = rz_k true (rz_f Z d 161 [v1, v2, v3] (rz_mk h ι, w)) (fun v σ' => rg Z d rx_m144 8 L (v.toList ++ [.ref t0]) σ') := rz_cs (pc := 5) (n := 3) (mi := 161) (S := v3 :: v2 :: v1 :: [.ref t0]) (rest := [.ref t0]) rfl rfl (Nat.le_of_ble_eq_true rfl) (Nat.le_of_ble_eq_true rfl)
theorem g144_8 : rg Z d rx_m144 8 L (.int x :: S) (rz_mk h ι, w) = if x = 0 then rg Z d rx_m144 34 L S (rz_mk h ι, w) else rg Z d rx_m144 11 L S (rz_mk h ι, w) := rz_if1 (pc := 8) (t := 34) (off := 26) (cc := .eq) (by decide) rfl
theorem g144_11 : rg Z d rx_m144 11 [l0, l1, some (.int x), l3, l4, l5, l6, l7, l8, l9] S (rz_mk h ι, w) = rg Z d rx_m144 12 [l0, l1, some (.int x), l3, l4, l5, l6, l7, l8, l9] (.int x :: S) (rz_mk h ι, w) := rz_s1 fun _ => rfl
theorem g144_12 : rg Z d rx_m144 12 L S (rz_mk h ι, w) = rg Z d rx_m144 13 L (.int 0 :: S) (rz_mk h ι, w) := rz_s1 fun _ => rfl
theorem g144_13 : rg Z d rx_m144 13 L S (rz_mk h ι, w) = rg Z d rx_m144 15 L (.int 99 :: S) (rz_mk h ι, w) := rz_s1 fun _ => rfl
theorem g144_15 : rg Z d rx_m144 15 L (v3 :: v2 :: v1 :: [.ref t0]) (rz_mk h ι, w) = rz_k true (rz_f Z d 161 [v1, v2, v3] (rz_mk h ι, w)) (fun v σ' => rg Z d rx_m144 18 L (v.toList ++ [.ref t0]) σ') := rz_cs (pc := 15) (n := 3) (mi := 161) (S := v3 :: v2 :: v1 :: [.ref t0]) (rest := [.ref t0]) rfl rfl (Nat.le_of_ble_eq_true rfl) (Nat.le_of_ble_eq_true rfl)
theorem g144_18 : rg Z d rx_m144 18 L (.int x :: S) (rz_mk h ι, w) = if x = 0 then rg Z d rx_m144 34 L S (rz_mk h ι, w) else rg Z d rx_m144 21 L S (rz_mk h ι, w) := rz_if1 (pc := 18) (t := 34) (off := 16) (cc := .eq) (by decide) rfl
theorem g144_21 : rg Z d rx_m144 21 [l0, l1, l2, some (.int x), l4, l5, l6, l7, l8, l9] S (rz_mk h ι, w) = rg Z d rx_m144 22 [l0, l1, l2, some (.int x), l4, l5, l6, l7, l8, l9] (.int x :: S) (rz_mk h ι, w) := rz_s1 fun _ => rfl
theorem g144_22 : rg Z d rx_m144 22 L S (rz_mk h ι, w) = rg Z d rx_m144 23 L (.int 0 :: S) (rz_mk h ι, w) := rz_s1 fun _ => rfl
theorem g144_23 : rg Z d rx_m144 23 L S (rz_mk h ι, w) = rg Z d rx_m144 24 L (.int 2 :: S) (rz_mk h ι, w) := rz_s1 fun _ => rfl
theorem g144_24 : rg Z d rx_m144 24 L (v3 :: v2 :: v1 :: [.ref t0]) (rz_mk h ι, w) = rz_k true (rz_f Z d 161 [v1, v2, v3] (rz_mk h ι, w)) (fun v σ' => rg Z d rx_m144 27 L (v.toList ++ [.ref t0]) σ') := rz_cs (pc := 24) (n := 3) (mi := 161) (S := v3 :: v2 :: v1 :: [.ref t0]) (rest := [.ref t0]) rfl rfl (Nat.le_of_ble_eq_true rfl) (Nat.le_of_ble_eq_true rfl)
theorem g144_27 : rg Z d rx_m144 27 L (.int x :: S) (rz_mk h ι, w) = if x = 0 then rg Z d rx_m144 34 L S (rz_mk h ι, w) else rg Z d rx_m144 30 L S (rz_mk h ι, w) := rz_if1 (pc := 27) (t := 34) (off := 7) (cc := .eq) (by decide) rfl
theorem g144_30 : rg Z d rx_m144 30 L S (rz_mk h ι, w) = rg Z d rx_m144 31 L (.int 1 :: S) (rz_mk h ι, w) := rz_s1 fun _ => rfl
theorem g144_31 : rg Z d rx_m144 31 L S (rz_mk h ι, w) = rg Z d rx_m144 35 L S (rz_mk h ι, w) := rz_s1 fun _ => rfl
theorem g144_34 : rg Z d rx_m144 34 L S (rz_mk h ι, w) = rg Z d rx_m144 35 L (.int 0 :: S) (rz_mk h ι, w) := rz_s1 fun _ => rfl
theorem g144_35 (c : rz_oc h a 11) : rg Z d rx_m144 35 L (v1 :: .ref a :: []) (rz_mk h ι, w) = rz_k true (rz_f Z d 162 [.ref a, v1] (rz_mk h ι, w)) (fun v σ' => rg Z d rx_m144 38 L (v.toList ++ []) σ') := rz_cv (pc := 35) (n := 1) (mi := 162) (S := v1 :: .ref a :: []) (rest := []) rfl rfl (Nat.le_of_ble_eq_true rfl) (Nat.le_of_ble_eq_true rfl) c
theorem g144_38 : rg Z d rx_m144 38 L S (rz_mk h ι, w) = rg Z d rx_m144 39 L (.int 0 :: S) (rz_mk h ι, w) := rz_s1 fun _ => rfl
theorem g144_39 : rg Z d rx_m144 39 [l0, l1, l2, some (.int z), l4, l5, l6, l7, l8, l9] (.int x :: S) (rz_mk h ι, w) = rg Z d rx_m144 41 [l0, l1, l2, some (.int z), some (.int x), l5, l6, l7, l8, l9] S (rz_mk h ι, w) := rz_s1 fun _ => rfl
theorem g144_41 : rg Z d rx_m144 41 L S (rz_mk h ι, w) = rg Z d rx_m144 42 L (.int (-1) :: S) (rz_mk h ι, w) := rz_s1 fun _ => rfl
theorem g144_42 : rg Z d rx_m144 42 [l0, l1, l2, l3, some (.int z), l5, l6, l7, l8, l9] (.int x :: S) (rz_mk h ι, w) = rg Z d rx_m144 44 [l0, l1, l2, l3, some (.int z), some (.int x), l6, l7, l8, l9] S (rz_mk h ι, w) := rz_s1 fun _ => rfl
theorem g144_44 : rg Z d rx_m144 44 L S (rz_mk h ι, w) = rg Z d rx_m144 45 L (.int 0 :: S) (rz_mk h ι, w) := rz_s1 fun _ => rfl
theorem g144_45 : rg Z d rx_m144 45 [l0, l1, l2, l3, l4, some (.int z), l6, l7, l8, l9] (.int x :: S) (rz_mk h ι, w) = rg Z d rx_m144 47 [l0, l1, l2, l3, l4, some (.int z), some (.int x), l7, l8, l9] S (rz_mk h ι, w) := rz_s1 fun _ => rfl
theorem g144_47 : rg Z d rx_m144 47 L S (rz_mk h ι, w) = rg Z d rx_m144 48 L (.int 0 :: S) (rz_mk h ι, w) := rz_s1 fun _ => rfl
theorem g144_48 : rg Z d rx_m144 48 [l0, l1, l2, l3, l4, l5, some (.int z), l7, l8, l9] (.int x :: S) (rz_mk h ι, w) = rg Z d rx_m144 50 [l0, l1, l2, l3, l4, l5, some (.int z), some (.int x), l8, l9] S (rz_mk h ι, w) := rz_s1 fun _ => rfl
theorem g144_50 : rg Z d rx_m144 50 [l0, l1, l2, l3, l4, l5, l6, some (.int x), l8, l9] S (rz_mk h ι, w) = rg Z d rx_m144 52 [l0, l1, l2, l3, l4, l5, l6, some (.int x), l8, l9] (.int x :: S) (rz_mk h ι, w) := rz_s1 fun _ => rfl
theorem g144_52 : rg Z d rx_m144 52 L S (rz_mk h ι, w) = rg Z d rx_m144 53 L (.int 2 :: S) (rz_mk h ι, w) := rz_s1 fun _ => rfl
theorem g144_53 : rg Z d rx_m144 53 L (.int y :: .int x :: S) (rz_mk h ι, w) = if x < y then rg Z d rx_m144 56 L S (rz_mk h ι, w) else rg Z d rx_m144 186 L S (rz_mk h ι, w) := rz_if2 (pc := 53) (t := 186) (off := 133) (cc := .ge) (by decide) rfl
theorem g144_56 : rg Z d rx_m144 56 L S (rz_mk h ι, w) = rg Z d rx_m144 57 L (.int 0 :: S) (rz_mk h ι, w) := rz_s1 fun _ => rfl
theorem g144_57 : rg Z d rx_m144 57 [l0, l1, l2, l3, l4, l5, l6, some (.int z), l8, l9] (.int x :: S) (rz_mk h ι, w) = rg Z d rx_m144 59 [l0, l1, l2, l3, l4, l5, l6, some (.int z), some (.int x), l9] S (rz_mk h ι, w) := rz_s1 fun _ => rfl
theorem g144_59 : rg Z d rx_m144 59 [l0, l1, l2, l3, l4, l5, l6, l7, some (.int x), l9] S (rz_mk h ι, w) = rg Z d rx_m144 61 [l0, l1, l2, l3, l4, l5, l6, l7, some (.int x), l9] (.int x :: S) (rz_mk h ι, w) := rz_s1 fun _ => rfl
theorem g144_61 : rg Z d rx_m144 61 L S (rz_mk h ι, w) = rg Z d rx_m144 62 L (.int 2 :: S) (rz_mk h ι, w) := rz_s1 fun _ => rfl
theorem g144_62 : rg Z d rx_m144 62 L (.int y :: .int x :: S) (rz_mk h ι, w) = if x < y then rg Z d rx_m144 65 L S (rz_mk h ι, w) else rg Z d rx_m144 180 L S (rz_mk h ι, w) := rz_if2 (pc := 62) (t := 180) (off := 118) (cc := .ge) (by decide) rfl
theorem g144_65 : rg Z d rx_m144 65 [l0, some (.int x), l2, l3, l4, l5, l6, l7, l8, l9] S (rz_mk h ι, w) = rg Z d rx_m144 66 [l0, some (.int x), l2, l3, l4, l5, l6, l7, l8, l9] (.int x :: S) (rz_mk h ι, w) := rz_s1 fun _ => rfl
theorem g144_66 : rg Z d rx_m144 66 [l0, l1, some (.int x), l3, l4, l5, l6, l7, l8, l9] S (rz_mk h ι, w) = rg Z d rx_m144 67 [l0, l1, some (.int x), l3, l4, l5, l6, l7, l8, l9] (.int x :: S) (rz_mk h ι, w) := rz_s1 fun _ => rfl
theorem g144_67 : rg Z d rx_m144 67 [l0, l1, l2, l3, l4, l5, l6, some (.int x), l8, l9] S (rz_mk h ι, w) = rg Z d rx_m144 69 [l0, l1, l2, l3, l4, l5, l6, some (.int x), l8, l9] (.int x :: S) (rz_mk h ι, w) := rz_s1 fun _ => rfl
theorem g144_69 : rg Z d rx_m144 69 [l0, l1, l2, l3, l4, l5, l6, l7, some (.int x), l9] S (rz_mk h ι, w) = rg Z d rx_m144 71 [l0, l1, l2, l3, l4, l5, l6, l7, some (.int x), l9] (.int x :: S) (rz_mk h ι, w) := rz_s1 fun _ => rfl
theorem g144_71 : rg Z d rx_m144 71 L (v4 :: v3 :: v2 :: v1 :: []) (rz_mk h ι, w) = rz_k true (rz_f Z d 168 [v1, v2, v3, v4] (rz_mk h ι, w)) (fun v σ' => rg Z d rx_m144 74 L (v.toList ++ []) σ') := rz_cs (pc := 71) (n := 4) (mi := 168) (S := v4 :: v3 :: v2 :: v1 :: []) (rest := []) rfl rfl (Nat.le_of_ble_eq_true rfl) (Nat.le_of_ble_eq_true rfl)
theorem g144_74 : rg Z d rx_m144 74 [l0, some (.int x), l2, l3, l4, l5, l6, l7, l8, l9] S (rz_mk h ι, w) = rg Z d rx_m144 75 [l0, some (.int x), l2, l3, l4, l5, l6, l7, l8, l9] (.int x :: S) (rz_mk h ι, w) := rz_s1 fun _ => rfl
theorem g144_75 : rg Z d rx_m144 75 [l0, l1, some (.int x), l3, l4, l5, l6, l7, l8, l9] S (rz_mk h ι, w) = rg Z d rx_m144 76 [l0, l1, some (.int x), l3, l4, l5, l6, l7, l8, l9] (.int x :: S) (rz_mk h ι, w) := rz_s1 fun _ => rfl
theorem g144_76 : rg Z d rx_m144 76 L S (rz_mk h ι, w) = rg Z d rx_m144 77 L (.int 1 :: S) (rz_mk h ι, w) := rz_s1 fun _ => rfl
theorem g144_77 : rg Z d rx_m144 77 [l0, l1, l2, l3, l4, l5, l6, some (.int x), l8, l9] S (rz_mk h ι, w) = rg Z d rx_m144 79 [l0, l1, l2, l3, l4, l5, l6, some (.int x), l8, l9] (.int x :: S) (rz_mk h ι, w) := rz_s1 fun _ => rfl
theorem g144_79 : rg Z d rx_m144 79 L (.int y :: .int x :: S) (rz_mk h ι, w) = rg Z d rx_m144 80 L (.int (x - y) :: S) (rz_mk h ι, w) := rz_s1 fun _ => rfl
theorem g144_80 : rg Z d rx_m144 80 [l0, l1, l2, l3, l4, l5, l6, l7, some (.int x), l9] S (rz_mk h ι, w) = rg Z d rx_m144 82 [l0, l1, l2, l3, l4, l5, l6, l7, some (.int x), l9] (.int x :: S) (rz_mk h ι, w) := rz_s1 fun _ => rfl
theorem g144_82 : rg Z d rx_m144 82 L (v4 :: v3 :: v2 :: v1 :: [.int s0]) (rz_mk h ι, w) = rz_k true (rz_f Z d 168 [v1, v2, v3, v4] (rz_mk h ι, w)) (fun v σ' => rg Z d rx_m144 85 L (v.toList ++ [.int s0]) σ') := rz_cs (pc := 82) (n := 4) (mi := 168) (S := v4 :: v3 :: v2 :: v1 :: [.int s0]) (rest := [.int s0]) rfl rfl (Nat.le_of_ble_eq_true rfl) (Nat.le_of_ble_eq_true rfl)
theorem g144_85 : rg Z d rx_m144 85 L (.int y :: .int x :: S) (rz_mk h ι, w) = if x < y then rg Z d rx_m144 115 L S (rz_mk h ι, w) else rg Z d rx_m144 88 L S (rz_mk h ι, w) := rz_if2 (pc := 85) (t := 115) (off := 30) (cc := .lt) (by decide) rfl
theorem g144_88 : rg Z d rx_m144 88 [l0, some (.int x), l2, l3, l4, l5, l6, l7, l8, l9] S (rz_mk h ι, w) = rg Z d rx_m144 89 [l0, some (.int x), l2, l3, l4, l5, l6, l7, l8, l9] (.int x :: S) (rz_mk h ι, w) := rz_s1 fun _ => rfl
theorem g144_89 : rg Z d rx_m144 89 [l0, l1, some (.int x), l3, l4, l5, l6, l7, l8, l9] S (rz_mk h ι, w) = rg Z d rx_m144 90 [l0, l1, some (.int x), l3, l4, l5, l6, l7, l8, l9] (.int x :: S) (rz_mk h ι, w) := rz_s1 fun _ => rfl
theorem g144_90 : rg Z d rx_m144 90 [l0, l1, l2, l3, l4, l5, l6, l7, some (.int x), l9] S (rz_mk h ι, w) = rg Z d rx_m144 92 [l0, l1, l2, l3, l4, l5, l6, l7, some (.int x), l9] (.int x :: S) (rz_mk h ι, w) := rz_s1 fun _ => rfl
theorem g144_92 : rg Z d rx_m144 92 [l0, l1, l2, l3, l4, l5, l6, some (.int x), l8, l9] S (rz_mk h ι, w) = rg Z d rx_m144 94 [l0, l1, l2, l3, l4, l5, l6, some (.int x), l8, l9] (.int x :: S) (rz_mk h ι, w) := rz_s1 fun _ => rfl
theorem g144_94 : rg Z d rx_m144 94 L (v4 :: v3 :: v2 :: v1 :: []) (rz_mk h ι, w) = rz_k true (rz_f Z d 168 [v1, v2, v3, v4] (rz_mk h ι, w)) (fun v σ' => rg Z d rx_m144 97 L (v.toList ++ []) σ') := rz_cs (pc := 94) (n := 4) (mi := 168) (S := v4 :: v3 :: v2 :: v1 :: []) (rest := []) rfl rfl (Nat.le_of_ble_eq_true rfl) (Nat.le_of_ble_eq_true rfl)
theorem g144_97 : rg Z d rx_m144 97 [l0, some (.int x), l2, l3, l4, l5, l6, l7, l8, l9] S (rz_mk h ι, w) = rg Z d rx_m144 98 [l0, some (.int x), l2, l3, l4, l5, l6, l7, l8, l9] (.int x :: S) (rz_mk h ι, w) := rz_s1 fun _ => rfl
theorem g144_98 : rg Z d rx_m144 98 [l0, l1, some (.int x), l3, l4, l5, l6, l7, l8, l9] S (rz_mk h ι, w) = rg Z d rx_m144 99 [l0, l1, some (.int x), l3, l4, l5, l6, l7, l8, l9] (.int x :: S) (rz_mk h ι, w) := rz_s1 fun _ => rfl
theorem g144_99 : rg Z d rx_m144 99 L S (rz_mk h ι, w) = rg Z d rx_m144 100 L (.int 1 :: S) (rz_mk h ι, w) := rz_s1 fun _ => rfl
theorem g144_100 : rg Z d rx_m144 100 [l0, l1, l2, l3, l4, l5, l6, l7, some (.int x), l9] S (rz_mk h ι, w) = rg Z d rx_m144 102 [l0, l1, l2, l3, l4, l5, l6, l7, some (.int x), l9] (.int x :: S) (rz_mk h ι, w) := rz_s1 fun _ => rfl
theorem g144_102 : rg Z d rx_m144 102 L (.int y :: .int x :: S) (rz_mk h ι, w) = rg Z d rx_m144 103 L (.int (x - y) :: S) (rz_mk h ι, w) := rz_s1 fun _ => rfl
theorem g144_103 : rg Z d rx_m144 103 [l0, l1, l2, l3, l4, l5, l6, some (.int x), l8, l9] S (rz_mk h ι, w) = rg Z d rx_m144 105 [l0, l1, l2, l3, l4, l5, l6, some (.int x), l8, l9] (.int x :: S) (rz_mk h ι, w) := rz_s1 fun _ => rfl
theorem g144_105 : rg Z d rx_m144 105 L (v4 :: v3 :: v2 :: v1 :: [.int s0]) (rz_mk h ι, w) = rz_k true (rz_f Z d 168 [v1, v2, v3, v4] (rz_mk h ι, w)) (fun v σ' => rg Z d rx_m144 108 L (v.toList ++ [.int s0]) σ') := rz_cs (pc := 105) (n := 4) (mi := 168) (S := v4 :: v3 :: v2 :: v1 :: [.int s0]) (rest := [.int s0]) rfl rfl (Nat.le_of_ble_eq_true rfl) (Nat.le_of_ble_eq_true rfl)
theorem g144_108 : rg Z d rx_m144 108 L (.int y :: .int x :: S) (rz_mk h ι, w) = if x < y then rg Z d rx_m144 115 L S (rz_mk h ι, w) else rg Z d rx_m144 111 L S (rz_mk h ι, w) := rz_if2 (pc := 108) (t := 115) (off := 7) (cc := .lt) (by decide) rfl
theorem g144_111 : rg Z d rx_m144 111 L S (rz_mk h ι, w) = rg Z d rx_m144 112 L (.int 1 :: S) (rz_mk h ι, w) := rz_s1 fun _ => rfl
theorem g144_112 : rg Z d rx_m144 112 L S (rz_mk h ι, w) = rg Z d rx_m144 116 L S (rz_mk h ι, w) := rz_s1 fun _ => rfl
theorem g144_115 : rg Z d rx_m144 115 L S (rz_mk h ι, w) = rg Z d rx_m144 116 L (.int 0 :: S) (rz_mk h ι, w) := rz_s1 fun _ => rfl
theorem g144_116 : rg Z d rx_m144 116 [l0, l1, l2, l3, l4, l5, l6, l7, some (.int z), l9] (.int x :: S) (rz_mk h ι, w) = rg Z d rx_m144 118 [l0, l1, l2, l3, l4, l5, l6, l7, some (.int z), some (.int x)] S (rz_mk h ι, w) := rz_s1 fun _ => rfl
theorem g144_118 : rg Z d rx_m144 118 [l0, l1, l2, l3, l4, l5, l6, l7, l8, some (.int x)] S (rz_mk h ι, w) = rg Z d rx_m144 120 [l0, l1, l2, l3, l4, l5, l6, l7, l8, some (.int x)] (.int x :: S) (rz_mk h ι, w) := rz_s1 fun _ => rfl
theorem g144_120 : rg Z d rx_m144 120 L (.int x :: S) (rz_mk h ι, w) = if x = 0 then rg Z d rx_m144 159 L S (rz_mk h ι, w) else rg Z d rx_m144 123 L S (rz_mk h ι, w) := rz_if1 (pc := 120) (t := 159) (off := 39) (cc := .eq) (by decide) rfl
theorem g144_123 : rg Z d rx_m144 123 [l0, l1, l2, l3, some (.int x), l5, l6, l7, l8, l9] S (rz_mk h ι, w) = rg Z d rx_m144 125 [l0, l1, l2, l3, some (.int x), l5, l6, l7, l8, l9] (.int x :: S) (rz_mk h ι, w) := rz_s1 fun _ => rfl
theorem g144_125 : rg Z d rx_m144 125 L (.int x :: S) (rz_mk h ι, w) = if x = 0 then rg Z d rx_m144 128 L S (rz_mk h ι, w) else rg Z d rx_m144 159 L S (rz_mk h ι, w) := rz_if1 (pc := 125) (t := 159) (off := 34) (cc := .ne) (by decide) rfl
theorem g144_128 : rg Z d rx_m144 128 L S (rz_mk h ι, w) = rg Z d rx_m144 130 L (.int 10 :: S) (rz_mk h ι, w) := rz_s1 fun _ => rfl
theorem g144_130 : rg Z d rx_m144 130 [l0, l1, l2, l3, l4, l5, l6, some (.int x), l8, l9] S (rz_mk h ι, w) = rg Z d rx_m144 132 [l0, l1, l2, l3, l4, l5, l6, some (.int x), l8, l9] (.int x :: S) (rz_mk h ι, w) := rz_s1 fun _ => rfl
theorem g144_132 : rg Z d rx_m144 132 L (.int y :: .int x :: S) (rz_mk h ι, w) = rg Z d rx_m144 133 L (.int (x * y) :: S) (rz_mk h ι, w) := rz_s1 fun _ => rfl
theorem g144_133 : rg Z d rx_m144 133 [l0, l1, l2, l3, l4, l5, l6, l7, some (.int x), l9] S (rz_mk h ι, w) = rg Z d rx_m144 135 [l0, l1, l2, l3, l4, l5, l6, l7, some (.int x), l9] (.int x :: S) (rz_mk h ι, w) := rz_s1 fun _ => rfl
theorem g144_135 : rg Z d rx_m144 135 L (.int y :: .int x :: S) (rz_mk h ι, w) = rg Z d rx_m144 136 L (.int (x + y) :: S) (rz_mk h ι, w) := rz_s1 fun _ => rfl
theorem g144_136 : rg Z d rx_m144 136 [l0, l1, l2, l3, some (.int z), l5, l6, l7, l8, l9] (.int x :: S) (rz_mk h ι, w) = rg Z d rx_m144 138 [l0, l1, l2, l3, some (.int z), some (.int x), l6, l7, l8, l9] S (rz_mk h ι, w) := rz_s1 fun _ => rfl
theorem g144_138 : rg Z d rx_m144 138 [l0, some (.int x), l2, l3, l4, l5, l6, l7, l8, l9] S (rz_mk h ι, w) = rg Z d rx_m144 139 [l0, some (.int x), l2, l3, l4, l5, l6, l7, l8, l9] (.int x :: S) (rz_mk h ι, w) := rz_s1 fun _ => rfl
theorem g144_139 : rg Z d rx_m144 139 [l0, l1, some (.int x), l3, l4, l5, l6, l7, l8, l9] S (rz_mk h ι, w) = rg Z d rx_m144 140 [l0, l1, some (.int x), l3, l4, l5, l6, l7, l8, l9] (.int x :: S) (rz_mk h ι, w) := rz_s1 fun _ => rfl
theorem g144_140 : rg Z d rx_m144 140 [l0, l1, l2, l3, l4, l5, l6, some (.int x), l8, l9] S (rz_mk h ι, w) = rg Z d rx_m144 142 [l0, l1, l2, l3, l4, l5, l6, some (.int x), l8, l9] (.int x :: S) (rz_mk h ι, w) := rz_s1 fun _ => rfl
theorem g144_142 : rg Z d rx_m144 142 [l0, l1, l2, l3, l4, l5, l6, l7, some (.int x), l9] S (rz_mk h ι, w) = rg Z d rx_m144 144 [l0, l1, l2, l3, l4, l5, l6, l7, some (.int x), l9] (.int x :: S) (rz_mk h ι, w) := rz_s1 fun _ => rfl
theorem g144_144 : rg Z d rx_m144 144 L (v4 :: v3 :: v2 :: v1 :: []) (rz_mk h ι, w) = rz_k true (rz_f Z d 168 [v1, v2, v3, v4] (rz_mk h ι, w)) (fun v σ' => rg Z d rx_m144 147 L (v.toList ++ []) σ') := rz_cs (pc := 144) (n := 4) (mi := 168) (S := v4 :: v3 :: v2 :: v1 :: []) (rest := []) rfl rfl (Nat.le_of_ble_eq_true rfl) (Nat.le_of_ble_eq_true rfl)
theorem g144_147 : rg Z d rx_m144 147 [l0, some (.int x), l2, l3, l4, l5, l6, l7, l8, l9] S (rz_mk h ι, w) = rg Z d rx_m144 148 [l0, some (.int x), l2, l3, l4, l5, l6, l7, l8, l9] (.int x :: S) (rz_mk h ι, w) := rz_s1 fun _ => rfl
theorem g144_148 : rg Z d rx_m144 148 [l0, l1, some (.int x), l3, l4, l5, l6, l7, l8, l9] S (rz_mk h ι, w) = rg Z d rx_m144 149 [l0, l1, some (.int x), l3, l4, l5, l6, l7, l8, l9] (.int x :: S) (rz_mk h ι, w) := rz_s1 fun _ => rfl
theorem g144_149 : rg Z d rx_m144 149 [l0, l1, l2, l3, l4, l5, l6, l7, some (.int x), l9] S (rz_mk h ι, w) = rg Z d rx_m144 151 [l0, l1, l2, l3, l4, l5, l6, l7, some (.int x), l9] (.int x :: S) (rz_mk h ι, w) := rz_s1 fun _ => rfl
theorem g144_151 : rg Z d rx_m144 151 [l0, l1, l2, l3, l4, l5, l6, some (.int x), l8, l9] S (rz_mk h ι, w) = rg Z d rx_m144 153 [l0, l1, l2, l3, l4, l5, l6, some (.int x), l8, l9] (.int x :: S) (rz_mk h ι, w) := rz_s1 fun _ => rfl
theorem g144_153 : rg Z d rx_m144 153 L (v4 :: v3 :: v2 :: v1 :: [.int s0]) (rz_mk h ι, w) = rz_k true (rz_f Z d 168 [v1, v2, v3, v4] (rz_mk h ι, w)) (fun v σ' => rg Z d rx_m144 156 L (v.toList ++ [.int s0]) σ') := rz_cs (pc := 153) (n := 4) (mi := 168) (S := v4 :: v3 :: v2 :: v1 :: [.int s0]) (rest := [.int s0]) rfl rfl (Nat.le_of_ble_eq_true rfl) (Nat.le_of_ble_eq_true rfl)
theorem g144_156 : rg Z d rx_m144 156 L (.int y :: .int x :: S) (rz_mk h ι, w) = rg Z d rx_m144 157 L (.int (x + y) :: S) (rz_mk h ι, w) := rz_s1 fun _ => rfl
theorem g144_157 : rg Z d rx_m144 157 [l0, l1, l2, l3, l4, some (.int z), l6, l7, l8, l9] (.int x :: S) (rz_mk h ι, w) = rg Z d rx_m144 159 [l0, l1, l2, l3, l4, some (.int z), some (.int x), l7, l8, l9] S (rz_mk h ι, w) := rz_s1 fun _ => rfl
theorem g144_159 : rg Z d rx_m144 159 [l0, l1, l2, l3, some (.int x), l5, l6, l7, l8, l9] S (rz_mk h ι, w) = rg Z d rx_m144 161 [l0, l1, l2, l3, some (.int x), l5, l6, l7, l8, l9] (.int x :: S) (rz_mk h ι, w) := rz_s1 fun _ => rfl
theorem g144_161 : rg Z d rx_m144 161 [l0, l1, l2, l3, l4, l5, l6, l7, l8, some (.int x)] S (rz_mk h ι, w) = rg Z d rx_m144 163 [l0, l1, l2, l3, l4, l5, l6, l7, l8, some (.int x)] (.int x :: S) (rz_mk h ι, w) := rz_s1 fun _ => rfl
theorem g144_163 : rg Z d rx_m144 163 L (.int x :: S) (rz_mk h ι, w) = if x = 0 then rg Z d rx_m144 170 L S (rz_mk h ι, w) else rg Z d rx_m144 166 L S (rz_mk h ι, w) := rz_if1 (pc := 163) (t := 170) (off := 7) (cc := .eq) (by decide) rfl
theorem g144_166 : rg Z d rx_m144 166 L S (rz_mk h ι, w) = rg Z d rx_m144 167 L (.int 1 :: S) (rz_mk h ι, w) := rz_s1 fun _ => rfl
theorem g144_167 : rg Z d rx_m144 167 L S (rz_mk h ι, w) = rg Z d rx_m144 171 L S (rz_mk h ι, w) := rz_s1 fun _ => rfl
theorem g144_170 : rg Z d rx_m144 170 L S (rz_mk h ι, w) = rg Z d rx_m144 171 L (.int 0 :: S) (rz_mk h ι, w) := rz_s1 fun _ => rfl
theorem g144_171 : rg Z d rx_m144 171 L (.int y :: .int x :: S) (rz_mk h ι, w) = rg Z d rx_m144 172 L (.int (x + y) :: S) (rz_mk h ι, w) := rz_s1 fun _ => rfl
theorem g144_172 : rg Z d rx_m144 172 [l0, l1, l2, some (.int z), l4, l5, l6, l7, l8, l9] (.int x :: S) (rz_mk h ι, w) = rg Z d rx_m144 174 [l0, l1, l2, some (.int z), some (.int x), l5, l6, l7, l8, l9] S (rz_mk h ι, w) := rz_s1 fun _ => rfl
theorem g144_174 : rg Z d rx_m144 174 [l0, l1, l2, l3, l4, l5, l6, some (.int z), some (.int x), l9] S (rz_mk h ι, w) = rg Z d rx_m144 177 [l0, l1, l2, l3, l4, l5, l6, some (.int z), some (.int (x + 1)), l9] S (rz_mk h ι, w) := rz_s1 fun _ => rfl
theorem g144_177 : rg Z d rx_m144 177 L S (rz_mk h ι, w) = rg Z d rx_m144 59 L S (rz_mk h ι, w) := rz_s1 fun _ => rfl
theorem g144_180 : rg Z d rx_m144 180 [l0, l1, l2, l3, l4, l5, some (.int z), some (.int x), l8, l9] S (rz_mk h ι, w) = rg Z d rx_m144 183 [l0, l1, l2, l3, l4, l5, some (.int z), some (.int (x + 1)), l8, l9] S (rz_mk h ι, w) := rz_s1 fun _ => rfl
theorem g144_183 : rg Z d rx_m144 183 L S (rz_mk h ι, w) = rg Z d rx_m144 50 L S (rz_mk h ι, w) := rz_s1 fun _ => rfl
theorem g144_186 : rg Z d rx_m144 186 [l0, l1, l2, some (.int x), l4, l5, l6, l7, l8, l9] S (rz_mk h ι, w) = rg Z d rx_m144 187 [l0, l1, l2, some (.int x), l4, l5, l6, l7, l8, l9] (.int x :: S) (rz_mk h ι, w) := rz_s1 fun _ => rfl
theorem g144_187 : rg Z d rx_m144 187 L (.int x :: S) (rz_mk h ι, w) = if x = 0 then rg Z d rx_m144 190 L S (rz_mk h ι, w) else rg Z d rx_m144 193 L S (rz_mk h ι, w) := rz_if1 (pc := 187) (t := 193) (off := 6) (cc := .ne) (by decide) rfl
theorem g144_190 : rg Z d rx_m144 190 [l0, l1, l2, l3, some (.int x), l5, l6, l7, l8, l9] S (rz_mk h ι, w) = rg Z d rx_m144 192 [l0, l1, l2, l3, some (.int x), l5, l6, l7, l8, l9] (.int x :: S) (rz_mk h ι, w) := rz_s1 fun _ => rfl
theorem g144_192 : rg Z d rx_m144 192 L [.int x] (rz_mk h ι, w) = some (.inl (some (.int x)), (rz_mk h ι, w)) := rz_reti rfl rfl rfl
theorem g144_193 : rg Z d rx_m144 193 [l0, l1, l2, some (.int x), l4, l5, l6, l7, l8, l9] S (rz_mk h ι, w) = rg Z d rx_m144 194 [l0, l1, l2, some (.int x), l4, l5, l6, l7, l8, l9] (.int x :: S) (rz_mk h ι, w) := rz_s1 fun _ => rfl
theorem g144_194 : rg Z d rx_m144 194 L S (rz_mk h ι, w) = rg Z d rx_m144 195 L (.int 1 :: S) (rz_mk h ι, w) := rz_s1 fun _ => rfl
theorem g144_195 : rg Z d rx_m144 195 L (.int y :: .int x :: S) (rz_mk h ι, w) = if x = y then rg Z d rx_m144 198 L S (rz_mk h ι, w) else rg Z d rx_m144 203 L S (rz_mk h ι, w) := rz_if2 (pc := 195) (t := 203) (off := 8) (cc := .ne) (by decide) rfl
theorem g144_198 : rg Z d rx_m144 198 [l0, l1, l2, l3, l4, some (.int x), l6, l7, l8, l9] S (rz_mk h ι, w) = rg Z d rx_m144 200 [l0, l1, l2, l3, l4, some (.int x), l6, l7, l8, l9] (.int x :: S) (rz_mk h ι, w) := rz_s1 fun _ => rfl
theorem g144_200 : rg Z d rx_m144 200 L S (rz_mk h ι, w) = rg Z d rx_m144 205 L S (rz_mk h ι, w) := rz_s1 fun _ => rfl
theorem g144_203 : rg Z d rx_m144 203 [l0, l1, l2, l3, l4, l5, some (.int x), l7, l8, l9] S (rz_mk h ι, w) = rg Z d rx_m144 205 [l0, l1, l2, l3, l4, l5, some (.int x), l7, l8, l9] (.int x :: S) (rz_mk h ι, w) := rz_s1 fun _ => rfl
theorem g144_205 : rg Z d rx_m144 205 L [.int x] (rz_mk h ι, w) = some (.inl (some (.int x)), (rz_mk h ι, w)) := rz_reti rfl rfl rfl
theorem e144 : rz_f Z (d + 1) 144 [.ref t0, .int s1, .int s2, .int s3] σ = rg Z d rx_m144 0 [some (.ref t0), some (.int s1), some (.int s2), some (.int s3), none, none, none, none, none, none] [] σ := rz_f_eq rfl (Nat.le_of_ble_eq_true rfl)
theorem g145_0 : rg Z d rx_m145 0 [some (.ref a), l1, l2, l3] S (rz_mk h ι, w) = rg Z d rx_m145 1 [some (.ref a), l1, l2, l3] (.ref a :: S) (rz_mk h ι, w) := rz_s1 fun _ => rfl
theorem g145_1 : rg Z d rx_m145 1 [l0, some (.int x), l2, l3] S (rz_mk h ι, w) = rg Z d rx_m145 2 [l0, some (.int x), l2, l3] (.int x :: S) (rz_mk h ι, w) := rz_s1 fun _ => rfl
theorem g145_2 (c : rz_oc h a 11) : rg Z d rx_m145 2 L (v1 :: .ref a :: []) (rz_mk h ι, w) = rz_k true (rz_f Z d 164 [.ref a, v1] (rz_mk h ι, w)) (fun v σ' => rg Z d rx_m145 5 L (v.toList ++ []) σ') := rz_cv (pc := 2) (n := 1) (mi := 164) (S := v1 :: .ref a :: []) (rest := []) rfl rfl (Nat.le_of_ble_eq_true rfl) (Nat.le_of_ble_eq_true rfl) c
theorem g145_5 : rg Z d rx_m145 5 [some (.ref a), l1, l2, l3] S (rz_mk h ι, w) = rg Z d rx_m145 6 [some (.ref a), l1, l2, l3] (.ref a :: S) (rz_mk h ι, w) := rz_s1 fun _ => rfl
theorem g145_6 : rg Z d rx_m145 6 [l0, l1, some (.int x), l3] S (rz_mk h ι, w) = rg Z d rx_m145 7 [l0, l1, some (.int x), l3] (.int x :: S) (rz_mk h ι, w) := rz_s1 fun _ => rfl
theorem g145_7 : rg Z d rx_m145 7 L S (rz_mk h ι, w) = rg Z d rx_m145 8 L (.int 0 :: S) (rz_mk h ι, w) := rz_s1 fun _ => rfl
theorem g145_8 : rg Z d rx_m145 8 L S (rz_mk h ι, w) = rg Z d rx_m145 9 L (.int 1 :: S) (rz_mk h ι, w) := rz_s1 fun _ => rfl
theorem g145_9 : rg Z d rx_m145 9 [some (.ref a), l1, l2, l3] S (rz_mk h ι, w) = rg Z d rx_m145 10 [some (.ref a), l1, l2, l3] (.ref a :: S) (rz_mk h ι, w) := rz_s1 fun _ => rfl
theorem g145_10 (c : rz_fR h a 11 11) : rg Z d rx_m145 10 L (.ref a :: S) (rz_mk h ι, w) = rg Z d rx_m145 13 L (rz_rv h a 11 :: S) (rz_mk h ι, w) := rz_gR rfl (by decide) c
theorem g145_13 (c : rz_fI h a 8 3) : rg Z d rx_m145 13 L (.ref a :: S) (rz_mk h ι, w) = rg Z d rx_m145 16 L (.int (ι a 3) :: S) (rz_mk h ι, w) := rz_gI rfl (by decide) c
theorem g145_16 : rg Z d rx_m145 16 L (.int y :: .int x :: S) (rz_mk h ι, w) = rg Z d rx_m145 17 L (.int (x <<< (y &&& 31)) :: S) (rz_mk h ι, w) := rz_s1 fun _ => rfl
theorem g145_17 : rg Z d rx_m145 17 L S (rz_mk h ι, w) = rg Z d rx_m145 18 L (.int 1 :: S) (rz_mk h ι, w) := rz_s1 fun _ => rfl
theorem g145_18 : rg Z d rx_m145 18 L (.int y :: .int x :: S) (rz_mk h ι, w) = rg Z d rx_m145 19 L (.int (x - y) :: S) (rz_mk h ι, w) := rz_s1 fun _ => rfl
theorem g145_19 : rg Z d rx_m145 19 L (v3 :: v2 :: v1 :: [.ref t0]) (rz_mk h ι, w) = rz_k true (rz_f Z d 161 [v1, v2, v3] (rz_mk h ι, w)) (fun v σ' => rg Z d rx_m145 22 L (v.toList ++ [.ref t0]) σ') := rz_cs (pc := 19) (n := 3) (mi := 161) (S := v3 :: v2 :: v1 :: [.ref t0]) (rest := [.ref t0]) rfl rfl (Nat.le_of_ble_eq_true rfl) (Nat.le_of_ble_eq_true rfl)
theorem g145_22 : rg Z d rx_m145 22 L (.int x :: S) (rz_mk h ι, w) = if x = 0 then rg Z d rx_m145 40 L S (rz_mk h ι, w) else rg Z d rx_m145 25 L S (rz_mk h ι, w) := rz_if1 (pc := 22) (t := 40) (off := 18) (cc := .eq) (by decide) rfl
theorem g145_25 : rg Z d rx_m145 25 [l0, l1, l2, some (.int x)] S (rz_mk h ι, w) = rg Z d rx_m145 26 [l0, l1, l2, some (.int x)] (.int x :: S) (rz_mk h ι, w) := rz_s1 fun _ => rfl
theorem g145_26 : rg Z d rx_m145 26 L S (rz_mk h ι, w) = rg Z d rx_m145 27 L (.int 0 :: S) (rz_mk h ι, w) := rz_s1 fun _ => rfl
theorem g145_27 : rg Z d rx_m145 27 L S (rz_mk h ι, w) = rg Z d rx_m145 30 L (.int 999 :: S) (rz_mk h ι, w) := rz_s1 fun _ => rfl
theorem g145_30 : rg Z d rx_m145 30 L (v3 :: v2 :: v1 :: [.ref t0]) (rz_mk h ι, w) = rz_k true (rz_f Z d 161 [v1, v2, v3] (rz_mk h ι, w)) (fun v σ' => rg Z d rx_m145 33 L (v.toList ++ [.ref t0]) σ') := rz_cs (pc := 30) (n := 3) (mi := 161) (S := v3 :: v2 :: v1 :: [.ref t0]) (rest := [.ref t0]) rfl rfl (Nat.le_of_ble_eq_true rfl) (Nat.le_of_ble_eq_true rfl)
theorem g145_33 : rg Z d rx_m145 33 L (.int x :: S) (rz_mk h ι, w) = if x = 0 then rg Z d rx_m145 40 L S (rz_mk h ι, w) else rg Z d rx_m145 36 L S (rz_mk h ι, w) := rz_if1 (pc := 33) (t := 40) (off := 7) (cc := .eq) (by decide) rfl
theorem g145_36 : rg Z d rx_m145 36 L S (rz_mk h ι, w) = rg Z d rx_m145 37 L (.int 1 :: S) (rz_mk h ι, w) := rz_s1 fun _ => rfl
theorem g145_37 : rg Z d rx_m145 37 L S (rz_mk h ι, w) = rg Z d rx_m145 41 L S (rz_mk h ι, w) := rz_s1 fun _ => rfl
theorem g145_40 : rg Z d rx_m145 40 L S (rz_mk h ι, w) = rg Z d rx_m145 41 L (.int 0 :: S) (rz_mk h ι, w) := rz_s1 fun _ => rfl
theorem g145_41 (c : rz_oc h a 11) : rg Z d rx_m145 41 L (v1 :: .ref a :: []) (rz_mk h ι, w) = rz_k true (rz_f Z d 162 [.ref a, v1] (rz_mk h ι, w)) (fun v σ' => rg Z d rx_m145 44 L (v.toList ++ []) σ') := rz_cv (pc := 41) (n := 1) (mi := 162) (S := v1 :: .ref a :: []) (rest := []) rfl rfl (Nat.le_of_ble_eq_true rfl) (Nat.le_of_ble_eq_true rfl) c
theorem g145_44 : rg Z d rx_m145 44 [some (.ref a), l1, l2, l3] S (rz_mk h ι, w) = rg Z d rx_m145 45 [some (.ref a), l1, l2, l3] (.ref a :: S) (rz_mk h ι, w) := rz_s1 fun _ => rfl
theorem g145_45 (c : rz_fR h a 11 5) : rg Z d rx_m145 45 L (.ref a :: S) (rz_mk h ι, w) = rg Z d rx_m145 48 L (rz_rv h a 5 :: S) (rz_mk h ι, w) := rz_gR rfl (by decide) c
theorem g145_48 : rg Z d rx_m145 48 [some (.ref a), l1, l2, l3] S (rz_mk h ι, w) = rg Z d rx_m145 49 [some (.ref a), l1, l2, l3] (.ref a :: S) (rz_mk h ι, w) := rz_s1 fun _ => rfl
theorem g145_49 (c : rz_fR h a 11 11) : rg Z d rx_m145 49 L (.ref a :: S) (rz_mk h ι, w) = rg Z d rx_m145 52 L (rz_rv h a 11 :: S) (rz_mk h ι, w) := rz_gR rfl (by decide) c
theorem g145_52 : rg Z d rx_m145 52 [some (.ref a), l1, l2, l3] S (rz_mk h ι, w) = rg Z d rx_m145 53 [some (.ref a), l1, l2, l3] (.ref a :: S) (rz_mk h ι, w) := rz_s1 fun _ => rfl
theorem g145_53 (c : rz_fR h a 11 10) : rg Z d rx_m145 53 L (.ref a :: S) (rz_mk h ι, w) = rg Z d rx_m145 56 L (rz_rv h a 10 :: S) (rz_mk h ι, w) := rz_gR rfl (by decide) c
theorem g145_56 : rg Z d rx_m145 56 [l0, some (.int x), l2, l3] S (rz_mk h ι, w) = rg Z d rx_m145 57 [l0, some (.int x), l2, l3] (.int x :: S) (rz_mk h ι, w) := rz_s1 fun _ => rfl
theorem g145_57 : rg Z d rx_m145 57 [l0, l1, some (.int x), l3] S (rz_mk h ι, w) = rg Z d rx_m145 58 [l0, l1, some (.int x), l3] (.int x :: S) (rz_mk h ι, w) := rz_s1 fun _ => rfl
theorem g145_58 : rg Z d rx_m145 58 [l0, l1, l2, some (.int x)] S (rz_mk h ι, w) = rg Z d rx_m145 59 [l0, l1, l2, some (.int x)] (.int x :: S) (rz_mk h ι, w) := rz_s1 fun _ => rfl
theorem g145_59 (c : rz_oc h a 2) : rg Z d rx_m145 59 L (v5 :: v4 :: v3 :: v2 :: v1 :: .ref a :: []) (rz_mk h ι, w) = rz_k true (rz_f Z d 19 [.ref a, v1, v2, v3, v4, v5] (rz_mk h ι, w)) (fun v σ' => rg Z d rx_m145 62 L (v.toList ++ []) σ') := rz_cv (pc := 59) (n := 5) (mi := 19) (S := v5 :: v4 :: v3 :: v2 :: v1 :: .ref a :: []) (rest := []) rfl rfl (Nat.le_of_ble_eq_true rfl) (Nat.le_of_ble_eq_true rfl) c
theorem g145_62 : rg Z d rx_m145 62 L [.int x] (rz_mk h ι, w) = some (.inl (some (.int x)), (rz_mk h ι, w)) := rz_reti rfl rfl rfl
theorem e145 : rz_f Z (d + 1) 145 [.ref t0, .int s1, .int s2, .int s3] σ = rg Z d rx_m145 0 [some (.ref t0), some (.int s1), some (.int s2), some (.int s3)] [] σ := rz_f_eq rfl (Nat.le_of_ble_eq_true rfl)
theorem g146_0 : rg Z d rx_m146 0 [some (.ref a), l1, l2, l3, l4] S (rz_mk h ι, w) = rg Z d rx_m146 1 [some (.ref a), l1, l2, l3, l4] (.ref a :: S) (rz_mk h ι, w) := rz_s1 fun _ => rfl
theorem g146_1 : rg Z d rx_m146 1 [l0, some (.int x), l2, l3, l4] S (rz_mk h ι, w) = rg Z d rx_m146 2 [l0, some (.int x), l2, l3, l4] (.int x :: S) (rz_mk h ι, w) := rz_s1 fun _ => rfl
theorem g146_2 : rg Z d rx_m146 2 L S (rz_mk h ι, w) = rg Z d rx_m146 3 L (.int 0 :: S) (rz_mk h ι, w) := rz_s1 fun _ => rfl
theorem g146_3 : rg Z d rx_m146 3 L S (rz_mk h ι, w) = rg Z d rx_m146 4 L (.int 1 :: S) (rz_mk h ι, w) := rz_s1 fun _ => rfl
theorem g146_4 : rg Z d rx_m146 4 L (v3 :: v2 :: v1 :: [.ref t0]) (rz_mk h ι, w) = rz_k true (rz_f Z d 161 [v1, v2, v3] (rz_mk h ι, w)) (fun v σ' => rg Z d rx_m146 7 L (v.toList ++ [.ref t0]) σ') := rz_cs (pc := 4) (n := 3) (mi := 161) (S := v3 :: v2 :: v1 :: [.ref t0]) (rest := [.ref t0]) rfl rfl (Nat.le_of_ble_eq_true rfl) (Nat.le_of_ble_eq_true rfl)
theorem g146_7 (c : rz_oc h a 11) : rg Z d rx_m146 7 L (v1 :: .ref a :: []) (rz_mk h ι, w) = rz_k true (rz_f Z d 162 [.ref a, v1] (rz_mk h ι, w)) (fun v σ' => rg Z d rx_m146 10 L (v.toList ++ []) σ') := rz_cv (pc := 7) (n := 1) (mi := 162) (S := v1 :: .ref a :: []) (rest := []) rfl rfl (Nat.le_of_ble_eq_true rfl) (Nat.le_of_ble_eq_true rfl) c
theorem g146_10 : rg Z d rx_m146 10 L S (rz_mk h ι, w) = rg Z d rx_m146 11 L (.int (-1) :: S) (rz_mk h ι, w) := rz_s1 fun _ => rfl
theorem g146_11 : rg Z d rx_m146 11 [l0, some (.int z), l2, l3, l4] (.int x :: S) (rz_mk h ι, w) = rg Z d rx_m146 12 [l0, some (.int z), some (.int x), l3, l4] S (rz_mk h ι, w) := rz_s1 fun _ => rfl
theorem g146_12 : rg Z d rx_m146 12 L S (rz_mk h ι, w) = rg Z d rx_m146 13 L (.int (-1) :: S) (rz_mk h ι, w) := rz_s1 fun _ => rfl
theorem g146_13 : rg Z d rx_m146 13 [l0, l1, some (.int z), l3, l4] (.int x :: S) (rz_mk h ι, w) = rg Z d rx_m146 14 [l0, l1, some (.int z), some (.int x), l4] S (rz_mk h ι, w) := rz_s1 fun _ => rfl
theorem g146_14 : rg Z d rx_m146 14 L S (rz_mk h ι, w) = rg Z d rx_m146 15 L (.int 0 :: S) (rz_mk h ι, w) := rz_s1 fun _ => rfl
theorem g146_15 : rg Z d rx_m146 15 [l0, l1, l2, some (.int z), l4] (.int x :: S) (rz_mk h ι, w) = rg Z d rx_m146 17 [l0, l1, l2, some (.int z), some (.int x)] S (rz_mk h ι, w) := rz_s1 fun _ => rfl
theorem g146_17 : rg Z d rx_m146 17 [l0, l1, l2, l3, some (.int x)] S (rz_mk h ι, w) = rg Z d rx_m146 19 [l0, l1, l2, l3, some (.int x)] (.int x :: S) (rz_mk h ι, w) := rz_s1 fun _ => rfl
theorem g146_19 : rg Z d rx_m146 19 [some (.ref a), l1, l2, l3, l4] S (rz_mk h ι, w) = rg Z d rx_m146 20 [some (.ref a), l1, l2, l3, l4] (.ref a :: S) (rz_mk h ι, w) := rz_s1 fun _ => rfl
theorem g146_20 (c : rz_fR h a 11 11) : rg Z d rx_m146 20 L (.ref a :: S) (rz_mk h ι, w) = rg Z d rx_m146 23 L (rz_rv h a 11 :: S) (rz_mk h ι, w) := rz_gR rfl (by decide) c
theorem g146_23 (c : rz_fI h a 8 3) : rg Z d rx_m146 23 L (.ref a :: S) (rz_mk h ι, w) = rg Z d rx_m146 26 L (.int (ι a 3) :: S) (rz_mk h ι, w) := rz_gI rfl (by decide) c
theorem g146_26 : rg Z d rx_m146 26 L (.int y :: .int x :: S) (rz_mk h ι, w) = if x < y then rg Z d rx_m146 29 L S (rz_mk h ι, w) else rg Z d rx_m146 73 L S (rz_mk h ι, w) := rz_if2 (pc := 26) (t := 73) (off := 47) (cc := .ge) (by decide) rfl
theorem g146_29 : rg Z d rx_m146 29 [some (.ref a), l1, l2, l3, l4] S (rz_mk h ι, w) = rg Z d rx_m146 30 [some (.ref a), l1, l2, l3, l4] (.ref a :: S) (rz_mk h ι, w) := rz_s1 fun _ => rfl
theorem g146_30 (c : rz_fR h a 11 11) : rg Z d rx_m146 30 L (.ref a :: S) (rz_mk h ι, w) = rg Z d rx_m146 33 L (rz_rv h a 11 :: S) (rz_mk h ι, w) := rz_gR rfl (by decide) c
theorem g146_33 : rg Z d rx_m146 33 [l0, l1, l2, l3, some (.int x)] S (rz_mk h ι, w) = rg Z d rx_m146 35 [l0, l1, l2, l3, some (.int x)] (.int x :: S) (rz_mk h ι, w) := rz_s1 fun _ => rfl
theorem g146_35 (c : rz_oc h a 8) : rg Z d rx_m146 35 L (v1 :: .ref a :: []) (rz_mk h ι, w) = rz_k true (rz_f Z d 68 [.ref a, v1] (rz_mk h ι, w)) (fun v σ' => rg Z d rx_m146 38 L (v.toList ++ []) σ') := rz_cv (pc := 35) (n := 1) (mi := 68) (S := v1 :: .ref a :: []) (rest := []) rfl rfl (Nat.le_of_ble_eq_true rfl) (Nat.le_of_ble_eq_true rfl) c
theorem g146_38 : rg Z d rx_m146 38 L (.int x :: S) (rz_mk h ι, w) = if x = 0 then rg Z d rx_m146 67 L S (rz_mk h ι, w) else rg Z d rx_m146 41 L S (rz_mk h ι, w) := rz_if1 (pc := 38) (t := 67) (off := 29) (cc := .eq) (by decide) rfl
theorem g146_41 : rg Z d rx_m146 41 [some (.ref a), l1, l2, l3, l4] S (rz_mk h ι, w) = rg Z d rx_m146 42 [some (.ref a), l1, l2, l3, l4] (.ref a :: S) (rz_mk h ι, w) := rz_s1 fun _ => rfl
theorem g146_42 (c : rz_fR h a 11 11) : rg Z d rx_m146 42 L (.ref a :: S) (rz_mk h ι, w) = rg Z d rx_m146 45 L (rz_rv h a 11 :: S) (rz_mk h ι, w) := rz_gR rfl (by decide) c
theorem g146_45 : rg Z d rx_m146 45 [l0, l1, l2, l3, some (.int x)] S (rz_mk h ι, w) = rg Z d rx_m146 47 [l0, l1, l2, l3, some (.int x)] (.int x :: S) (rz_mk h ι, w) := rz_s1 fun _ => rfl
theorem g146_47 (c : rz_oc h a 8) : rg Z d rx_m146 47 L (v1 :: .ref a :: []) (rz_mk h ι, w) = rz_k true (rz_f Z d 72 [.ref a, v1] (rz_mk h ι, w)) (fun v σ' => rg Z d rx_m146 50 L (v.toList ++ []) σ') := rz_cv (pc := 47) (n := 1) (mi := 72) (S := v1 :: .ref a :: []) (rest := []) rfl rfl (Nat.le_of_ble_eq_true rfl) (Nat.le_of_ble_eq_true rfl) c
theorem g146_50 : rg Z d rx_m146 50 [l0, l1, l2, some (.int x), l4] S (rz_mk h ι, w) = rg Z d rx_m146 51 [l0, l1, l2, some (.int x), l4] (.int x :: S) (rz_mk h ι, w) := rz_s1 fun _ => rfl
theorem g146_51 : rg Z d rx_m146 51 L (.int y :: .int x :: S) (rz_mk h ι, w) = if y < x then rg Z d rx_m146 54 L S (rz_mk h ι, w) else rg Z d rx_m146 67 L S (rz_mk h ι, w) := rz_if2 (pc := 51) (t := 67) (off := 16) (cc := .le) (by decide) rfl
theorem g146_54 : rg Z d rx_m146 54 [some (.ref a), l1, l2, l3, l4] S (rz_mk h ι, w) = rg Z d rx_m146 55 [some (.ref a), l1, l2, l3, l4] (.ref a :: S) (rz_mk h ι, w) := rz_s1 fun _ => rfl
theorem g146_55 (c : rz_fR h a 11 11) : rg Z d rx_m146 55 L (.ref a :: S) (rz_mk h ι, w) = rg Z d rx_m146 58 L (rz_rv h a 11 :: S) (rz_mk h ι, w) := rz_gR rfl (by decide) c
theorem g146_58 : rg Z d rx_m146 58 [l0, l1, l2, l3, some (.int x)] S (rz_mk h ι, w) = rg Z d rx_m146 60 [l0, l1, l2, l3, some (.int x)] (.int x :: S) (rz_mk h ι, w) := rz_s1 fun _ => rfl
theorem g146_60 (c : rz_oc h a 8) : rg Z d rx_m146 60 L (v1 :: .ref a :: []) (rz_mk h ι, w) = rz_k true (rz_f Z d 72 [.ref a, v1] (rz_mk h ι, w)) (fun v σ' => rg Z d rx_m146 63 L (v.toList ++ []) σ') := rz_cv (pc := 60) (n := 1) (mi := 72) (S := v1 :: .ref a :: []) (rest := []) rfl rfl (Nat.le_of_ble_eq_true rfl) (Nat.le_of_ble_eq_true rfl) c
theorem g146_63 : rg Z d rx_m146 63 [l0, l1, some (.int z), l3, l4] (.int x :: S) (rz_mk h ι, w) = rg Z d rx_m146 64 [l0, l1, some (.int z), some (.int x), l4] S (rz_mk h ι, w) := rz_s1 fun _ => rfl
theorem g146_64 : rg Z d rx_m146 64 [l0, l1, l2, l3, some (.int x)] S (rz_mk h ι, w) = rg Z d rx_m146 66 [l0, l1, l2, l3, some (.int x)] (.int x :: S) (rz_mk h ι, w) := rz_s1 fun _ => rfl
theorem g146_66 : rg Z d rx_m146 66 [l0, some (.int z), l2, l3, l4] (.int x :: S) (rz_mk h ι, w) = rg Z d rx_m146 67 [l0, some (.int z), some (.int x), l3, l4] S (rz_mk h ι, w) := rz_s1 fun _ => rfl
theorem g146_67 : rg Z d rx_m146 67 [l0, l1, l2, some (.int z), some (.int x)] S (rz_mk h ι, w) = rg Z d rx_m146 70 [l0, l1, l2, some (.int z), some (.int (x + 1))] S (rz_mk h ι, w) := rz_s1 fun _ => rfl
theorem g146_70 : rg Z d rx_m146 70 L S (rz_mk h ι, w) = rg Z d rx_m146 17 L S (rz_mk h ι, w) := rz_s1 fun _ => rfl
theorem g146_73 : rg Z d rx_m146 73 [l0, some (.int x), l2, l3, l4] S (rz_mk h ι, w) = rg Z d rx_m146 74 [l0, some (.int x), l2, l3, l4] (.int x :: S) (rz_mk h ι, w) := rz_s1 fun _ => rfl
theorem g146_74 : rg Z d rx_m146 74 L (.int x :: S) (rz_mk h ι, w) = if x = 0 then rg Z d rx_m146 77 L S (rz_mk h ι, w) else rg Z d rx_m146 81 L S (rz_mk h ι, w) := rz_if1 (pc := 74) (t := 81) (off := 7) (cc := .ne) (by decide) rfl
theorem g146_77 : rg Z d rx_m146 77 [l0, l1, some (.int x), l3, l4] S (rz_mk h ι, w) = rg Z d rx_m146 78 [l0, l1, some (.int x), l3, l4] (.int x :: S) (rz_mk h ι, w) := rz_s1 fun _ => rfl
theorem g146_78 : rg Z d rx_m146 78 L S (rz_mk h ι, w) = rg Z d rx_m146 82 L S (rz_mk h ι, w) := rz_s1 fun _ => rfl
theorem g146_81 : rg Z d rx_m146 81 [l0, l1, l2, some (.int x), l4] S (rz_mk h ι, w) = rg Z d rx_m146 82 [l0, l1, l2, some (.int x), l4] (.int x :: S) (rz_mk h ι, w) := rz_s1 fun _ => rfl
theorem g146_82 : rg Z d rx_m146 82 L [.int x] (rz_mk h ι, w) = some (.inl (some (.int x)), (rz_mk h ι, w)) := rz_reti rfl rfl rfl
theorem e146 : rz_f Z (d + 1) 146 [.ref t0, .int s1] σ = rg Z d rx_m146 0 [some (.ref t0), some (.int s1), none, none, none] [] σ := rz_f_eq rfl (Nat.le_of_ble_eq_true rfl)
theorem g147_0 : rg Z d rx_m147 0 [some (.ref a), l1, l2, l3, l4, l5] S (rz_mk h ι, w) = rg Z d rx_m147 1 [some (.ref a), l1, l2, l3, l4, l5] (.ref a :: S) (rz_mk h ι, w) := rz_s1 fun _ => rfl
theorem g147_1 : rg Z d rx_m147 1 [l0, some (.int x), l2, l3, l4, l5] S (rz_mk h ι, w) = rg Z d rx_m147 2 [l0, some (.int x), l2, l3, l4, l5] (.int x :: S) (rz_mk h ι, w) := rz_s1 fun _ => rfl
theorem g147_2 : rg Z d rx_m147 2 L S (rz_mk h ι, w) = rg Z d rx_m147 3 L (.int 0 :: S) (rz_mk h ι, w) := rz_s1 fun _ => rfl
theorem g147_3 : rg Z d rx_m147 3 L S (rz_mk h ι, w) = rg Z d rx_m147 4 L (.int 1 :: S) (rz_mk h ι, w) := rz_s1 fun _ => rfl
theorem g147_4 : rg Z d rx_m147 4 L (v3 :: v2 :: v1 :: [.ref t0]) (rz_mk h ι, w) = rz_k true (rz_f Z d 161 [v1, v2, v3] (rz_mk h ι, w)) (fun v σ' => rg Z d rx_m147 7 L (v.toList ++ [.ref t0]) σ') := rz_cs (pc := 4) (n := 3) (mi := 161) (S := v3 :: v2 :: v1 :: [.ref t0]) (rest := [.ref t0]) rfl rfl (Nat.le_of_ble_eq_true rfl) (Nat.le_of_ble_eq_true rfl)
theorem g147_7 (c : rz_oc h a 11) : rg Z d rx_m147 7 L (v1 :: .ref a :: []) (rz_mk h ι, w) = rz_k true (rz_f Z d 162 [.ref a, v1] (rz_mk h ι, w)) (fun v σ' => rg Z d rx_m147 10 L (v.toList ++ []) σ') := rz_cv (pc := 7) (n := 1) (mi := 162) (S := v1 :: .ref a :: []) (rest := []) rfl rfl (Nat.le_of_ble_eq_true rfl) (Nat.le_of_ble_eq_true rfl) c
theorem g147_10 : rg Z d rx_m147 10 L S (rz_mk h ι, w) = rg Z d rx_m147 11 L (.int 0 :: S) (rz_mk h ι, w) := rz_s1 fun _ => rfl
theorem g147_11 : rg Z d rx_m147 11 [l0, some (.int z), l2, l3, l4, l5] (.int x :: S) (rz_mk h ι, w) = rg Z d rx_m147 12 [l0, some (.int z), some (.int x), l3, l4, l5] S (rz_mk h ι, w) := rz_s1 fun _ => rfl
theorem g147_12 : rg Z d rx_m147 12 L S (rz_mk h ι, w) = rg Z d rx_m147 13 L (.int (-1) :: S) (rz_mk h ι, w) := rz_s1 fun _ => rfl
theorem g147_13 : rg Z d rx_m147 13 [l0, l1, some (.int z), l3, l4, l5] (.int x :: S) (rz_mk h ι, w) = rg Z d rx_m147 14 [l0, l1, some (.int z), some (.int x), l4, l5] S (rz_mk h ι, w) := rz_s1 fun _ => rfl
theorem g147_14 : rg Z d rx_m147 14 L S (rz_mk h ι, w) = rg Z d rx_m147 15 L (.int 0 :: S) (rz_mk h ι, w) := rz_s1 fun _ => rfl
theorem g147_15 : rg Z d rx_m147 15 [l0, l1, l2, some (.int z), l4, l5] (.int x :: S) (rz_mk h ι, w) = rg Z d rx_m147 17 [l0, l1, l2, some (.int z), some (.int x), l5] S (rz_mk h ι, w) := rz_s1 fun _ => rfl
theorem g147_17 : rg Z d rx_m147 17 [l0, l1, l2, l3, some (.int x), l5] S (rz_mk h ι, w) = rg Z d rx_m147 19 [l0, l1, l2, l3, some (.int x), l5] (.int x :: S) (rz_mk h ι, w) := rz_s1 fun _ => rfl
theorem g147_19 : rg Z d rx_m147 19 [some (.ref a), l1, l2, l3, l4, l5] S (rz_mk h ι, w) = rg Z d rx_m147 20 [some (.ref a), l1, l2, l3, l4, l5] (.ref a :: S) (rz_mk h ι, w) := rz_s1 fun _ => rfl
theorem g147_20 (c : rz_fR h a 11 11) : rg Z d rx_m147 20 L (.ref a :: S) (rz_mk h ι, w) = rg Z d rx_m147 23 L (rz_rv h a 11 :: S) (rz_mk h ι, w) := rz_gR rfl (by decide) c
theorem g147_23 (c : rz_fI h a 8 3) : rg Z d rx_m147 23 L (.ref a :: S) (rz_mk h ι, w) = rg Z d rx_m147 26 L (.int (ι a 3) :: S) (rz_mk h ι, w) := rz_gI rfl (by decide) c
theorem g147_26 : rg Z d rx_m147 26 L (.int y :: .int x :: S) (rz_mk h ι, w) = if x < y then rg Z d rx_m147 29 L S (rz_mk h ι, w) else rg Z d rx_m147 117 L S (rz_mk h ι, w) := rz_if2 (pc := 26) (t := 117) (off := 91) (cc := .ge) (by decide) rfl
theorem g147_29 : rg Z d rx_m147 29 [l0, l1, l2, l3, some (.int x), l5] S (rz_mk h ι, w) = rg Z d rx_m147 31 [l0, l1, l2, l3, some (.int x), l5] (.int x :: S) (rz_mk h ι, w) := rz_s1 fun _ => rfl
theorem g147_31 : rg Z d rx_m147 31 L S (rz_mk h ι, w) = rg Z d rx_m147 32 L (.int 1 :: S) (rz_mk h ι, w) := rz_s1 fun _ => rfl
theorem g147_32 : rg Z d rx_m147 32 L (.int y :: .int x :: S) (rz_mk h ι, w) = rg Z d rx_m147 33 L (.int (x + y) :: S) (rz_mk h ι, w) := rz_s1 fun _ => rfl
theorem g147_33 : rg Z d rx_m147 33 [l0, l1, l2, l3, some (.int z), l5] (.int x :: S) (rz_mk h ι, w) = rg Z d rx_m147 35 [l0, l1, l2, l3, some (.int z), some (.int x)] S (rz_mk h ι, w) := rz_s1 fun _ => rfl
theorem g147_35 : rg Z d rx_m147 35 [l0, l1, l2, l3, l4, some (.int x)] S (rz_mk h ι, w) = rg Z d rx_m147 37 [l0, l1, l2, l3, l4, some (.int x)] (.int x :: S) (rz_mk h ι, w) := rz_s1 fun _ => rfl
theorem g147_37 : rg Z d rx_m147 37 [some (.ref a), l1, l2, l3, l4, l5] S (rz_mk h ι, w) = rg Z d rx_m147 38 [some (.ref a), l1, l2, l3, l4, l5] (.ref a :: S) (rz_mk h ι, w) := rz_s1 fun _ => rfl
theorem g147_38 (c : rz_fR h a 11 11) : rg Z d rx_m147 38 L (.ref a :: S) (rz_mk h ι, w) = rg Z d rx_m147 41 L (rz_rv h a 11 :: S) (rz_mk h ι, w) := rz_gR rfl (by decide) c
theorem g147_41 (c : rz_fI h a 8 3) : rg Z d rx_m147 41 L (.ref a :: S) (rz_mk h ι, w) = rg Z d rx_m147 44 L (.int (ι a 3) :: S) (rz_mk h ι, w) := rz_gI rfl (by decide) c
theorem g147_44 : rg Z d rx_m147 44 L (.int y :: .int x :: S) (rz_mk h ι, w) = if x < y then rg Z d rx_m147 47 L S (rz_mk h ι, w) else rg Z d rx_m147 111 L S (rz_mk h ι, w) := rz_if2 (pc := 44) (t := 111) (off := 67) (cc := .ge) (by decide) rfl
theorem g147_47 : rg Z d rx_m147 47 [some (.ref a), l1, l2, l3, l4, l5] S (rz_mk h ι, w) = rg Z d rx_m147 48 [some (.ref a), l1, l2, l3, l4, l5] (.ref a :: S) (rz_mk h ι, w) := rz_s1 fun _ => rfl
theorem g147_48 (c : rz_fR h a 11 11) : rg Z d rx_m147 48 L (.ref a :: S) (rz_mk h ι, w) = rg Z d rx_m147 51 L (rz_rv h a 11 :: S) (rz_mk h ι, w) := rz_gR rfl (by decide) c
theorem g147_51 : rg Z d rx_m147 51 [l0, l1, l2, l3, some (.int x), l5] S (rz_mk h ι, w) = rg Z d rx_m147 53 [l0, l1, l2, l3, some (.int x), l5] (.int x :: S) (rz_mk h ι, w) := rz_s1 fun _ => rfl
theorem g147_53 (c : rz_oc h a 8) : rg Z d rx_m147 53 L (v1 :: .ref a :: []) (rz_mk h ι, w) = rz_k true (rz_f Z d 68 [.ref a, v1] (rz_mk h ι, w)) (fun v σ' => rg Z d rx_m147 56 L (v.toList ++ []) σ') := rz_cv (pc := 53) (n := 1) (mi := 68) (S := v1 :: .ref a :: []) (rest := []) rfl rfl (Nat.le_of_ble_eq_true rfl) (Nat.le_of_ble_eq_true rfl) c
theorem g147_56 : rg Z d rx_m147 56 L (.int x :: S) (rz_mk h ι, w) = if x = 0 then rg Z d rx_m147 105 L S (rz_mk h ι, w) else rg Z d rx_m147 59 L S (rz_mk h ι, w) := rz_if1 (pc := 56) (t := 105) (off := 49) (cc := .eq) (by decide) rfl
theorem g147_59 : rg Z d rx_m147 59 [some (.ref a), l1, l2, l3, l4, l5] S (rz_mk h ι, w) = rg Z d rx_m147 60 [some (.ref a), l1, l2, l3, l4, l5] (.ref a :: S) (rz_mk h ι, w) := rz_s1 fun _ => rfl
theorem g147_60 (c : rz_fR h a 11 11) : rg Z d rx_m147 60 L (.ref a :: S) (rz_mk h ι, w) = rg Z d rx_m147 63 L (rz_rv h a 11 :: S) (rz_mk h ι, w) := rz_gR rfl (by decide) c
theorem g147_63 : rg Z d rx_m147 63 [l0, l1, l2, l3, l4, some (.int x)] S (rz_mk h ι, w) = rg Z d rx_m147 65 [l0, l1, l2, l3, l4, some (.int x)] (.int x :: S) (rz_mk h ι, w) := rz_s1 fun _ => rfl
theorem g147_65 (c : rz_oc h a 8) : rg Z d rx_m147 65 L (v1 :: .ref a :: []) (rz_mk h ι, w) = rz_k true (rz_f Z d 68 [.ref a, v1] (rz_mk h ι, w)) (fun v σ' => rg Z d rx_m147 68 L (v.toList ++ []) σ') := rz_cv (pc := 65) (n := 1) (mi := 68) (S := v1 :: .ref a :: []) (rest := []) rfl rfl (Nat.le_of_ble_eq_true rfl) (Nat.le_of_ble_eq_true rfl) c
theorem g147_68 : rg Z d rx_m147 68 L (.int x :: S) (rz_mk h ι, w) = if x = 0 then rg Z d rx_m147 105 L S (rz_mk h ι, w) else rg Z d rx_m147 71 L S (rz_mk h ι, w) := rz_if1 (pc := 68) (t := 105) (off := 37) (cc := .eq) (by decide) rfl
theorem g147_71 : rg Z d rx_m147 71 [some (.ref a), l1, l2, l3, l4, l5] S (rz_mk h ι, w) = rg Z d rx_m147 72 [some (.ref a), l1, l2, l3, l4, l5] (.ref a :: S) (rz_mk h ι, w) := rz_s1 fun _ => rfl
theorem g147_72 (c : rz_fR h a 11 11) : rg Z d rx_m147 72 L (.ref a :: S) (rz_mk h ι, w) = rg Z d rx_m147 75 L (rz_rv h a 11 :: S) (rz_mk h ι, w) := rz_gR rfl (by decide) c
theorem g147_75 : rg Z d rx_m147 75 [l0, l1, l2, l3, some (.int x), l5] S (rz_mk h ι, w) = rg Z d rx_m147 77 [l0, l1, l2, l3, some (.int x), l5] (.int x :: S) (rz_mk h ι, w) := rz_s1 fun _ => rfl
theorem g147_77 : rg Z d rx_m147 77 [l0, l1, l2, l3, l4, some (.int x)] S (rz_mk h ι, w) = rg Z d rx_m147 79 [l0, l1, l2, l3, l4, some (.int x)] (.int x :: S) (rz_mk h ι, w) := rz_s1 fun _ => rfl
theorem g147_79 (c : rz_oc h a 8) : rg Z d rx_m147 79 L (v2 :: v1 :: .ref a :: []) (rz_mk h ι, w) = rz_k true (rz_f Z d 74 [.ref a, v1, v2] (rz_mk h ι, w)) (fun v σ' => rg Z d rx_m147 82 L (v.toList ++ []) σ') := rz_cv (pc := 79) (n := 2) (mi := 74) (S := v2 :: v1 :: .ref a :: []) (rest := []) rfl rfl (Nat.le_of_ble_eq_true rfl) (Nat.le_of_ble_eq_true rfl) c
theorem g147_82 : rg Z d rx_m147 82 L (.int x :: S) (rz_mk h ι, w) = if x = 0 then rg Z d rx_m147 85 L S (rz_mk h ι, w) else rg Z d rx_m147 105 L S (rz_mk h ι, w) := rz_if1 (pc := 82) (t := 105) (off := 23) (cc := .ne) (by decide) rfl
theorem g147_85 : rg Z d rx_m147 85 [l0, l1, some (.int x), l3, l4, l5] S (rz_mk h ι, w) = rg Z d rx_m147 86 [l0, l1, some (.int x), l3, l4, l5] (.int x :: S) (rz_mk h ι, w) := rz_s1 fun _ => rfl
theorem g147_86 : rg Z d rx_m147 86 L (.int x :: S) (rz_mk h ι, w) = if x = 0 then rg Z d rx_m147 89 L S (rz_mk h ι, w) else rg Z d rx_m147 100 L S (rz_mk h ι, w) := rz_if1 (pc := 86) (t := 100) (off := 14) (cc := .ne) (by decide) rfl
theorem g147_89 : rg Z d rx_m147 89 L S (rz_mk h ι, w) = rg Z d rx_m147 91 L (.int 10 :: S) (rz_mk h ι, w) := rz_s1 fun _ => rfl
theorem g147_91 : rg Z d rx_m147 91 [l0, l1, l2, l3, some (.int x), l5] S (rz_mk h ι, w) = rg Z d rx_m147 93 [l0, l1, l2, l3, some (.int x), l5] (.int x :: S) (rz_mk h ι, w) := rz_s1 fun _ => rfl
theorem g147_93 : rg Z d rx_m147 93 L (.int y :: .int x :: S) (rz_mk h ι, w) = rg Z d rx_m147 94 L (.int (x * y) :: S) (rz_mk h ι, w) := rz_s1 fun _ => rfl
theorem g147_94 : rg Z d rx_m147 94 [l0, l1, l2, l3, l4, some (.int x)] S (rz_mk h ι, w) = rg Z d rx_m147 96 [l0, l1, l2, l3, l4, some (.int x)] (.int x :: S) (rz_mk h ι, w) := rz_s1 fun _ => rfl
theorem g147_96 : rg Z d rx_m147 96 L (.int y :: .int x :: S) (rz_mk h ι, w) = rg Z d rx_m147 97 L (.int (x + y) :: S) (rz_mk h ι, w) := rz_s1 fun _ => rfl
theorem g147_97 : rg Z d rx_m147 97 L S (rz_mk h ι, w) = rg Z d rx_m147 101 L S (rz_mk h ι, w) := rz_s1 fun _ => rfl
theorem g147_100 : rg Z d rx_m147 100 [l0, l1, l2, some (.int x), l4, l5] S (rz_mk h ι, w) = rg Z d rx_m147 101 [l0, l1, l2, some (.int x), l4, l5] (.int x :: S) (rz_mk h ι, w) := rz_s1 fun _ => rfl
theorem g147_101 : rg Z d rx_m147 101 [l0, l1, some (.int z), l3, l4, l5] (.int x :: S) (rz_mk h ι, w) = rg Z d rx_m147 102 [l0, l1, some (.int z), some (.int x), l4, l5] S (rz_mk h ι, w) := rz_s1 fun _ => rfl
theorem g147_102 : rg Z d rx_m147 102 [l0, some (.int z), some (.int x), l3, l4, l5] S (rz_mk h ι, w) = rg Z d rx_m147 105 [l0, some (.int z), some (.int (x + 1)), l3, l4, l5] S (rz_mk h ι, w) := rz_s1 fun _ => rfl
theorem g147_105 : rg Z d rx_m147 105 [l0, l1, l2, l3, some (.int z), some (.int x)] S (rz_mk h ι, w) = rg Z d rx_m147 108 [l0, l1, l2, l3, some (.int z), some (.int (x + 1))] S (rz_mk h ι, w) := rz_s1 fun _ => rfl
theorem g147_108 : rg Z d rx_m147 108 L S (rz_mk h ι, w) = rg Z d rx_m147 35 L S (rz_mk h ι, w) := rz_s1 fun _ => rfl
theorem g147_111 : rg Z d rx_m147 111 [l0, l1, l2, some (.int z), some (.int x), l5] S (rz_mk h ι, w) = rg Z d rx_m147 114 [l0, l1, l2, some (.int z), some (.int (x + 1)), l5] S (rz_mk h ι, w) := rz_s1 fun _ => rfl
theorem g147_114 : rg Z d rx_m147 114 L S (rz_mk h ι, w) = rg Z d rx_m147 17 L S (rz_mk h ι, w) := rz_s1 fun _ => rfl
theorem g147_117 : rg Z d rx_m147 117 [l0, some (.int x), l2, l3, l4, l5] S (rz_mk h ι, w) = rg Z d rx_m147 118 [l0, some (.int x), l2, l3, l4, l5] (.int x :: S) (rz_mk h ι, w) := rz_s1 fun _ => rfl
theorem g147_118 : rg Z d rx_m147 118 L (.int x :: S) (rz_mk h ι, w) = if x = 0 then rg Z d rx_m147 121 L S (rz_mk h ι, w) else rg Z d rx_m147 125 L S (rz_mk h ι, w) := rz_if1 (pc := 118) (t := 125) (off := 7) (cc := .ne) (by decide) rfl
theorem g147_121 : rg Z d rx_m147 121 [l0, l1, some (.int x), l3, l4, l5] S (rz_mk h ι, w) = rg Z d rx_m147 122 [l0, l1, some (.int x), l3, l4, l5] (.int x :: S) (rz_mk h ι, w) := rz_s1 fun _ => rfl
theorem g147_122 : rg Z d rx_m147 122 L S (rz_mk h ι, w) = rg Z d rx_m147 126 L S (rz_mk h ι, w) := rz_s1 fun _ => rfl
theorem g147_125 : rg Z d rx_m147 125 [l0, l1, l2, some (.int x), l4, l5] S (rz_mk h ι, w) = rg Z d rx_m147 126 [l0, l1, l2, some (.int x), l4, l5] (.int x :: S) (rz_mk h ι, w) := rz_s1 fun _ => rfl
theorem g147_126 : rg Z d rx_m147 126 L [.int x] (rz_mk h ι, w) = some (.inl (some (.int x)), (rz_mk h ι, w)) := rz_reti rfl rfl rfl
theorem e147 : rz_f Z (d + 1) 147 [.ref t0, .int s1] σ = rg Z d rx_m147 0 [some (.ref t0), some (.int s1), none, none, none, none] [] σ := rz_f_eq rfl (Nat.le_of_ble_eq_true rfl)
theorem g148_0 : rg Z d rx_m148 0 [some (.ref a), l1, l2] S (rz_mk h ι, w) = rg Z d rx_m148 1 [some (.ref a), l1, l2] (.ref a :: S) (rz_mk h ι, w) := rz_s1 fun _ => rfl
theorem g148_1 : rg Z d rx_m148 1 [l0, some (.int x), l2] S (rz_mk h ι, w) = rg Z d rx_m148 2 [l0, some (.int x), l2] (.int x :: S) (rz_mk h ι, w) := rz_s1 fun _ => rfl
theorem g148_2 (c : rz_oc h a 11) : rg Z d rx_m148 2 L (v1 :: .ref a :: []) (rz_mk h ι, w) = rz_k true (rz_f Z d 164 [.ref a, v1] (rz_mk h ι, w)) (fun v σ' => rg Z d rx_m148 5 L (v.toList ++ []) σ') := rz_cv (pc := 2) (n := 1) (mi := 164) (S := v1 :: .ref a :: []) (rest := []) rfl rfl (Nat.le_of_ble_eq_true rfl) (Nat.le_of_ble_eq_true rfl) c
theorem g148_5 : rg Z d rx_m148 5 [some (.ref a), l1, l2] S (rz_mk h ι, w) = rg Z d rx_m148 6 [some (.ref a), l1, l2] (.ref a :: S) (rz_mk h ι, w) := rz_s1 fun _ => rfl
theorem g148_6 : rg Z d rx_m148 6 [l0, l1, some (.int x)] S (rz_mk h ι, w) = rg Z d rx_m148 7 [l0, l1, some (.int x)] (.int x :: S) (rz_mk h ι, w) := rz_s1 fun _ => rfl
theorem g148_7 : rg Z d rx_m148 7 L S (rz_mk h ι, w) = rg Z d rx_m148 8 L (.int 0 :: S) (rz_mk h ι, w) := rz_s1 fun _ => rfl
theorem g148_8 : rg Z d rx_m148 8 L S (rz_mk h ι, w) = rg Z d rx_m148 10 L (.int 99 :: S) (rz_mk h ι, w) := rz_s1 fun _ => rfl
theorem g148_10 : rg Z d rx_m148 10 L (v3 :: v2 :: v1 :: [.ref t0]) (rz_mk h ι, w) = rz_k true (rz_f Z d 161 [v1, v2, v3] (rz_mk h ι, w)) (fun v σ' => rg Z d rx_m148 13 L (v.toList ++ [.ref t0]) σ') := rz_cs (pc := 10) (n := 3) (mi := 161) (S := v3 :: v2 :: v1 :: [.ref t0]) (rest := [.ref t0]) rfl rfl (Nat.le_of_ble_eq_true rfl) (Nat.le_of_ble_eq_true rfl)
theorem g148_13 (c : rz_oc h a 11) : rg Z d rx_m148 13 L (v1 :: .ref a :: []) (rz_mk h ι, w) = rz_k true (rz_f Z d 162 [.ref a, v1] (rz_mk h ι, w)) (fun v σ' => rg Z d rx_m148 16 L (v.toList ++ []) σ') := rz_cv (pc := 13) (n := 1) (mi := 162) (S := v1 :: .ref a :: []) (rest := []) rfl rfl (Nat.le_of_ble_eq_true rfl) (Nat.le_of_ble_eq_true rfl) c
theorem g148_16 : rg Z d rx_m148 16 [some (.ref a), l1, l2] S (rz_mk h ι, w) = rg Z d rx_m148 17 [some (.ref a), l1, l2] (.ref a :: S) (rz_mk h ι, w) := rz_s1 fun _ => rfl
theorem g148_17 (c : rz_fR h a 11 10) : rg Z d rx_m148 17 L (.ref a :: S) (rz_mk h ι, w) = rg Z d rx_m148 20 L (rz_rv h a 10 :: S) (rz_mk h ι, w) := rz_gR rfl (by decide) c
theorem g148_20 : rg Z d rx_m148 20 [some (.ref a), l1, l2] S (rz_mk h ι, w) = rg Z d rx_m148 21 [some (.ref a), l1, l2] (.ref a :: S) (rz_mk h ι, w) := rz_s1 fun _ => rfl
theorem g148_21 (c : rz_fR h a 11 11) : rg Z d rx_m148 21 L (.ref a :: S) (rz_mk h ι, w) = rg Z d rx_m148 24 L (rz_rv h a 11 :: S) (rz_mk h ι, w) := rz_gR rfl (by decide) c
theorem g148_24 : rg Z d rx_m148 24 [l0, some (.int x), l2] S (rz_mk h ι, w) = rg Z d rx_m148 25 [l0, some (.int x), l2] (.int x :: S) (rz_mk h ι, w) := rz_s1 fun _ => rfl
theorem g148_25 : rg Z d rx_m148 25 [l0, l1, some (.int x)] S (rz_mk h ι, w) = rg Z d rx_m148 26 [l0, l1, some (.int x)] (.int x :: S) (rz_mk h ι, w) := rz_s1 fun _ => rfl
theorem g148_26 (c : rz_oc h a 5) : rg Z d rx_m148 26 L (v3 :: v2 :: v1 :: .ref a :: []) (rz_mk h ι, w) = rz_k true (rz_f Z d 52 [.ref a, v1, v2, v3] (rz_mk h ι, w)) (fun v σ' => rg Z d rx_m148 29 L (v.toList ++ []) σ') := rz_cv (pc := 26) (n := 3) (mi := 52) (S := v3 :: v2 :: v1 :: .ref a :: []) (rest := []) rfl rfl (Nat.le_of_ble_eq_true rfl) (Nat.le_of_ble_eq_true rfl) c
theorem g148_29 : rg Z d rx_m148 29 L [.int x] (rz_mk h ι, w) = some (.inl (some (.int x)), (rz_mk h ι, w)) := rz_reti rfl rfl rfl
theorem e148 : rz_f Z (d + 1) 148 [.ref t0, .int s1, .int s2] σ = rg Z d rx_m148 0 [some (.ref t0), some (.int s1), some (.int s2)] [] σ := rz_f_eq rfl (Nat.le_of_ble_eq_true rfl)
theorem g149_0 : rg Z d rx_m149 0 [some (.ref a), l1, l2, l3, l4] S (rz_mk h ι, w) = rg Z d rx_m149 1 [some (.ref a), l1, l2, l3, l4] (.ref a :: S) (rz_mk h ι, w) := rz_s1 fun _ => rfl
theorem g149_1 : rg Z d rx_m149 1 [l0, some (.int x), l2, l3, l4] S (rz_mk h ι, w) = rg Z d rx_m149 2 [l0, some (.int x), l2, l3, l4] (.int x :: S) (rz_mk h ι, w) := rz_s1 fun _ => rfl
theorem g149_2 : rg Z d rx_m149 2 L S (rz_mk h ι, w) = rg Z d rx_m149 3 L (.int 0 :: S) (rz_mk h ι, w) := rz_s1 fun _ => rfl
theorem g149_3 : rg Z d rx_m149 3 L S (rz_mk h ι, w) = rg Z d rx_m149 4 L (.int 1 :: S) (rz_mk h ι, w) := rz_s1 fun _ => rfl
theorem g149_4 : rg Z d rx_m149 4 L (v3 :: v2 :: v1 :: [.ref t0]) (rz_mk h ι, w) = rz_k true (rz_f Z d 161 [v1, v2, v3] (rz_mk h ι, w)) (fun v σ' => rg Z d rx_m149 7 L (v.toList ++ [.ref t0]) σ') := rz_cs (pc := 4) (n := 3) (mi := 161) (S := v3 :: v2 :: v1 :: [.ref t0]) (rest := [.ref t0]) rfl rfl (Nat.le_of_ble_eq_true rfl) (Nat.le_of_ble_eq_true rfl)
theorem g149_7 (c : rz_oc h a 11) : rg Z d rx_m149 7 L (v1 :: .ref a :: []) (rz_mk h ι, w) = rz_k true (rz_f Z d 162 [.ref a, v1] (rz_mk h ι, w)) (fun v σ' => rg Z d rx_m149 10 L (v.toList ++ []) σ') := rz_cv (pc := 7) (n := 1) (mi := 162) (S := v1 :: .ref a :: []) (rest := []) rfl rfl (Nat.le_of_ble_eq_true rfl) (Nat.le_of_ble_eq_true rfl) c
theorem g149_10 : rg Z d rx_m149 10 L S (rz_mk h ι, w) = rg Z d rx_m149 11 L (.int (-1) :: S) (rz_mk h ι, w) := rz_s1 fun _ => rfl
theorem g149_11 : rg Z d rx_m149 11 [l0, some (.int z), l2, l3, l4] (.int x :: S) (rz_mk h ι, w) = rg Z d rx_m149 12 [l0, some (.int z), some (.int x), l3, l4] S (rz_mk h ι, w) := rz_s1 fun _ => rfl
theorem g149_12 : rg Z d rx_m149 12 L S (rz_mk h ι, w) = rg Z d rx_m149 14 L (.int 100 :: S) (rz_mk h ι, w) := rz_s1 fun _ => rfl
theorem g149_14 : rg Z d rx_m149 14 [l0, l1, some (.int z), l3, l4] (.int x :: S) (rz_mk h ι, w) = rg Z d rx_m149 15 [l0, l1, some (.int z), some (.int x), l4] S (rz_mk h ι, w) := rz_s1 fun _ => rfl
theorem g149_15 : rg Z d rx_m149 15 L S (rz_mk h ι, w) = rg Z d rx_m149 16 L (.int 0 :: S) (rz_mk h ι, w) := rz_s1 fun _ => rfl
theorem g149_16 : rg Z d rx_m149 16 [l0, l1, l2, some (.int z), l4] (.int x :: S) (rz_mk h ι, w) = rg Z d rx_m149 18 [l0, l1, l2, some (.int z), some (.int x)] S (rz_mk h ι, w) := rz_s1 fun _ => rfl
theorem g149_18 : rg Z d rx_m149 18 [l0, l1, l2, l3, some (.int x)] S (rz_mk h ι, w) = rg Z d rx_m149 20 [l0, l1, l2, l3, some (.int x)] (.int x :: S) (rz_mk h ι, w) := rz_s1 fun _ => rfl
theorem g149_20 : rg Z d rx_m149 20 [some (.ref a), l1, l2, l3, l4] S (rz_mk h ι, w) = rg Z d rx_m149 21 [some (.ref a), l1, l2, l3, l4] (.ref a :: S) (rz_mk h ι, w) := rz_s1 fun _ => rfl
theorem g149_21 (c : rz_fR h a 11 11) : rg Z d rx_m149 21 L (.ref a :: S) (rz_mk h ι, w) = rg Z d rx_m149 24 L (rz_rv h a 11 :: S) (rz_mk h ι, w) := rz_gR rfl (by decide) c
theorem g149_24 (c : rz_fI h a 8 3) : rg Z d rx_m149 24 L (.ref a :: S) (rz_mk h ι, w) = rg Z d rx_m149 27 L (.int (ι a 3) :: S) (rz_mk h ι, w) := rz_gI rfl (by decide) c
theorem g149_27 : rg Z d rx_m149 27 L (.int y :: .int x :: S) (rz_mk h ι, w) = if x < y then rg Z d rx_m149 30 L S (rz_mk h ι, w) else rg Z d rx_m149 94 L S (rz_mk h ι, w) := rz_if2 (pc := 27) (t := 94) (off := 67) (cc := .ge) (by decide) rfl
theorem g149_30 : rg Z d rx_m149 30 [some (.ref a), l1, l2, l3, l4] S (rz_mk h ι, w) = rg Z d rx_m149 31 [some (.ref a), l1, l2, l3, l4] (.ref a :: S) (rz_mk h ι, w) := rz_s1 fun _ => rfl
theorem g149_31 (c : rz_fR h a 11 11) : rg Z d rx_m149 31 L (.ref a :: S) (rz_mk h ι, w) = rg Z d rx_m149 34 L (rz_rv h a 11 :: S) (rz_mk h ι, w) := rz_gR rfl (by decide) c
theorem g149_34 : rg Z d rx_m149 34 [l0, l1, l2, l3, some (.int x)] S (rz_mk h ι, w) = rg Z d rx_m149 36 [l0, l1, l2, l3, some (.int x)] (.int x :: S) (rz_mk h ι, w) := rz_s1 fun _ => rfl
theorem g149_36 (c : rz_oc h a 8) : rg Z d rx_m149 36 L (v1 :: .ref a :: []) (rz_mk h ι, w) = rz_k true (rz_f Z d 68 [.ref a, v1] (rz_mk h ι, w)) (fun v σ' => rg Z d rx_m149 39 L (v.toList ++ []) σ') := rz_cv (pc := 36) (n := 1) (mi := 68) (S := v1 :: .ref a :: []) (rest := []) rfl rfl (Nat.le_of_ble_eq_true rfl) (Nat.le_of_ble_eq_true rfl) c
theorem g149_39 : rg Z d rx_m149 39 L (.int x :: S) (rz_mk h ι, w) = if x = 0 then rg Z d rx_m149 88 L S (rz_mk h ι, w) else rg Z d rx_m149 42 L S (rz_mk h ι, w) := rz_if1 (pc := 39) (t := 88) (off := 49) (cc := .eq) (by decide) rfl
theorem g149_42 : rg Z d rx_m149 42 [l0, l1, l2, l3, some (.int x)] S (rz_mk h ι, w) = rg Z d rx_m149 44 [l0, l1, l2, l3, some (.int x)] (.int x :: S) (rz_mk h ι, w) := rz_s1 fun _ => rfl
theorem g149_44 : rg Z d rx_m149 44 [some (.ref a), l1, l2, l3, l4] S (rz_mk h ι, w) = rg Z d rx_m149 45 [some (.ref a), l1, l2, l3, l4] (.ref a :: S) (rz_mk h ι, w) := rz_s1 fun _ => rfl
theorem g149_45 (c : rz_fR h a 11 11) : rg Z d rx_m149 45 L (.ref a :: S) (rz_mk h ι, w) = rg Z d rx_m149 48 L (rz_rv h a 11 :: S) (rz_mk h ι, w) := rz_gR rfl (by decide) c
theorem g149_48 (c : rz_fI h a 8 5) : rg Z d rx_m149 48 L (.ref a :: S) (rz_mk h ι, w) = rg Z d rx_m149 51 L (.int (ι a 5) :: S) (rz_mk h ι, w) := rz_gI rfl (by decide) c
theorem g149_51 : rg Z d rx_m149 51 L (.int y :: .int x :: S) (rz_mk h ι, w) = if x = y then rg Z d rx_m149 88 L S (rz_mk h ι, w) else rg Z d rx_m149 54 L S (rz_mk h ι, w) := rz_if2 (pc := 51) (t := 88) (off := 37) (cc := .eq) (by decide) rfl
theorem g149_54 : rg Z d rx_m149 54 [some (.ref a), l1, l2, l3, l4] S (rz_mk h ι, w) = rg Z d rx_m149 55 [some (.ref a), l1, l2, l3, l4] (.ref a :: S) (rz_mk h ι, w) := rz_s1 fun _ => rfl
theorem g149_55 (c : rz_fR h a 11 10) : rg Z d rx_m149 55 L (.ref a :: S) (rz_mk h ι, w) = rg Z d rx_m149 58 L (rz_rv h a 10 :: S) (rz_mk h ι, w) := rz_gR rfl (by decide) c
theorem g149_58 : rg Z d rx_m149 58 [some (.ref a), l1, l2, l3, l4] S (rz_mk h ι, w) = rg Z d rx_m149 59 [some (.ref a), l1, l2, l3, l4] (.ref a :: S) (rz_mk h ι, w) := rz_s1 fun _ => rfl
theorem g149_59 (c : rz_fR h a 11 11) : rg Z d rx_m149 59 L (.ref a :: S) (rz_mk h ι, w) = rg Z d rx_m149 62 L (rz_rv h a 11 :: S) (rz_mk h ι, w) := rz_gR rfl (by decide) c
theorem g149_62 : rg Z d rx_m149 62 [l0, l1, l2, l3, some (.int x)] S (rz_mk h ι, w) = rg Z d rx_m149 64 [l0, l1, l2, l3, some (.int x)] (.int x :: S) (rz_mk h ι, w) := rz_s1 fun _ => rfl
theorem g149_64 (c : rz_oc h a 5) : rg Z d rx_m149 64 L (v2 :: v1 :: .ref a :: []) (rz_mk h ι, w) = rz_k true (rz_f Z d 49 [.ref a, v1, v2] (rz_mk h ι, w)) (fun v σ' => rg Z d rx_m149 67 L (v.toList ++ []) σ') := rz_cv (pc := 64) (n := 2) (mi := 49) (S := v2 :: v1 :: .ref a :: []) (rest := []) rfl rfl (Nat.le_of_ble_eq_true rfl) (Nat.le_of_ble_eq_true rfl) c
theorem g149_67 : rg Z d rx_m149 67 [l0, l1, l2, some (.int x), l4] S (rz_mk h ι, w) = rg Z d rx_m149 68 [l0, l1, l2, some (.int x), l4] (.int x :: S) (rz_mk h ι, w) := rz_s1 fun _ => rfl
theorem g149_68 : rg Z d rx_m149 68 L (.int y :: .int x :: S) (rz_mk h ι, w) = if x < y then rg Z d rx_m149 71 L S (rz_mk h ι, w) else rg Z d rx_m149 88 L S (rz_mk h ι, w) := rz_if2 (pc := 68) (t := 88) (off := 20) (cc := .ge) (by decide) rfl
theorem g149_71 : rg Z d rx_m149 71 [some (.ref a), l1, l2, l3, l4] S (rz_mk h ι, w) = rg Z d rx_m149 72 [some (.ref a), l1, l2, l3, l4] (.ref a :: S) (rz_mk h ι, w) := rz_s1 fun _ => rfl
theorem g149_72 (c : rz_fR h a 11 10) : rg Z d rx_m149 72 L (.ref a :: S) (rz_mk h ι, w) = rg Z d rx_m149 75 L (rz_rv h a 10 :: S) (rz_mk h ι, w) := rz_gR rfl (by decide) c
theorem g149_75 : rg Z d rx_m149 75 [some (.ref a), l1, l2, l3, l4] S (rz_mk h ι, w) = rg Z d rx_m149 76 [some (.ref a), l1, l2, l3, l4] (.ref a :: S) (rz_mk h ι, w) := rz_s1 fun _ => rfl
theorem g149_76 (c : rz_fR h a 11 11) : rg Z d rx_m149 76 L (.ref a :: S) (rz_mk h ι, w) = rg Z d rx_m149 79 L (rz_rv h a 11 :: S) (rz_mk h ι, w) := rz_gR rfl (by decide) c
theorem g149_79 : rg Z d rx_m149 79 [l0, l1, l2, l3, some (.int x)] S (rz_mk h ι, w) = rg Z d rx_m149 81 [l0, l1, l2, l3, some (.int x)] (.int x :: S) (rz_mk h ι, w) := rz_s1 fun _ => rfl
theorem g149_81 (c : rz_oc h a 5) : rg Z d rx_m149 81 L (v2 :: v1 :: .ref a :: []) (rz_mk h ι, w) = rz_k true (rz_f Z d 49 [.ref a, v1, v2] (rz_mk h ι, w)) (fun v σ' => rg Z d rx_m149 84 L (v.toList ++ []) σ') := rz_cv (pc := 81) (n := 2) (mi := 49) (S := v2 :: v1 :: .ref a :: []) (rest := []) rfl rfl (Nat.le_of_ble_eq_true rfl) (Nat.le_of_ble_eq_true rfl) c
theorem g149_84 : rg Z d rx_m149 84 [l0, l1, some (.int z), l3, l4] (.int x :: S) (rz_mk h ι, w) = rg Z d rx_m149 85 [l0, l1, some (.int z), some (.int x), l4] S (rz_mk h ι, w) := rz_s1 fun _ => rfl
theorem g149_85 : rg Z d rx_m149 85 [l0, l1, l2, l3, some (.int x)] S (rz_mk h ι, w) = rg Z d rx_m149 87 [l0, l1, l2, l3, some (.int x)] (.int x :: S) (rz_mk h ι, w) := rz_s1 fun _ => rfl
theorem g149_87 : rg Z d rx_m149 87 [l0, some (.int z), l2, l3, l4] (.int x :: S) (rz_mk h ι, w) = rg Z d rx_m149 88 [l0, some (.int z), some (.int x), l3, l4] S (rz_mk h ι, w) := rz_s1 fun _ => rfl
theorem g149_88 : rg Z d rx_m149 88 [l0, l1, l2, some (.int z), some (.int x)] S (rz_mk h ι, w) = rg Z d rx_m149 91 [l0, l1, l2, some (.int z), some (.int (x + 1))] S (rz_mk h ι, w) := rz_s1 fun _ => rfl
theorem g149_91 : rg Z d rx_m149 91 L S (rz_mk h ι, w) = rg Z d rx_m149 18 L S (rz_mk h ι, w) := rz_s1 fun _ => rfl
theorem g149_94 : rg Z d rx_m149 94 [l0, some (.int x), l2, l3, l4] S (rz_mk h ι, w) = rg Z d rx_m149 95 [l0, some (.int x), l2, l3, l4] (.int x :: S) (rz_mk h ι, w) := rz_s1 fun _ => rfl
theorem g149_95 : rg Z d rx_m149 95 L (.int x :: S) (rz_mk h ι, w) = if x = 0 then rg Z d rx_m149 103 L S (rz_mk h ι, w) else rg Z d rx_m149 98 L S (rz_mk h ι, w) := rz_if1 (pc := 95) (t := 103) (off := 8) (cc := .eq) (by decide) rfl
theorem g149_98 : rg Z d rx_m149 98 [l0, l1, some (.int x), l3, l4] S (rz_mk h ι, w) = rg Z d rx_m149 99 [l0, l1, some (.int x), l3, l4] (.int x :: S) (rz_mk h ι, w) := rz_s1 fun _ => rfl
theorem g149_99 : rg Z d rx_m149 99 L S (rz_mk h ι, w) = rg Z d rx_m149 100 L (.int (-1) :: S) (rz_mk h ι, w) := rz_s1 fun _ => rfl
theorem g149_100 : rg Z d rx_m149 100 L (.int y :: .int x :: S) (rz_mk h ι, w) = if x = y then rg Z d rx_m149 103 L S (rz_mk h ι, w) else rg Z d rx_m149 107 L S (rz_mk h ι, w) := rz_if2 (pc := 100) (t := 107) (off := 7) (cc := .ne) (by decide) rfl
theorem g149_103 : rg Z d rx_m149 103 [l0, l1, some (.int x), l3, l4] S (rz_mk h ι, w) = rg Z d rx_m149 104 [l0, l1, some (.int x), l3, l4] (.int x :: S) (rz_mk h ι, w) := rz_s1 fun _ => rfl
theorem g149_104 : rg Z d rx_m149 104 L S (rz_mk h ι, w) = rg Z d rx_m149 108 L S (rz_mk h ι, w) := rz_s1 fun _ => rfl
theorem g149_107 : rg Z d rx_m149 107 [l0, l1, l2, some (.int x), l4] S (rz_mk h ι, w) = rg Z d rx_m149 108 [l0, l1, l2, some (.int x), l4] (.int x :: S) (rz_mk h ι, w) := rz_s1 fun _ => rfl
theorem g149_108 : rg Z d rx_m149 108 L [.int x] (rz_mk h ι, w) = some (.inl (some (.int x)), (rz_mk h ι, w)) := rz_reti rfl rfl rfl
theorem e149 : rz_f Z (d + 1) 149 [.ref t0, .int s1] σ = rg Z d rx_m149 0 [some (.ref t0), some (.int s1), none, none, none] [] σ := rz_f_eq rfl (Nat.le_of_ble_eq_true rfl)
theorem g150_0 : rg Z d rx_m150 0 [some (.ref a), l1, l2, l3, l4, l5, l6] S (rz_mk h ι, w) = rg Z d rx_m150 1 [some (.ref a), l1, l2, l3, l4, l5, l6] (.ref a :: S) (rz_mk h ι, w) := rz_s1 fun _ => rfl
theorem g150_1 : rg Z d rx_m150 1 [l0, some (.int x), l2, l3, l4, l5, l6] S (rz_mk h ι, w) = rg Z d rx_m150 2 [l0, some (.int x), l2, l3, l4, l5, l6] (.int x :: S) (rz_mk h ι, w) := rz_s1 fun _ => rfl
theorem g150_2 : rg Z d rx_m150 2 L S (rz_mk h ι, w) = rg Z d rx_m150 3 L (.int 0 :: S) (rz_mk h ι, w) := rz_s1 fun _ => rfl
theorem g150_3 : rg Z d rx_m150 3 L S (rz_mk h ι, w) = rg Z d rx_m150 4 L (.int 2 :: S) (rz_mk h ι, w) := rz_s1 fun _ => rfl
theorem g150_4 : rg Z d rx_m150 4 L (v3 :: v2 :: v1 :: [.ref t0]) (rz_mk h ι, w) = rz_k true (rz_f Z d 161 [v1, v2, v3] (rz_mk h ι, w)) (fun v σ' => rg Z d rx_m150 7 L (v.toList ++ [.ref t0]) σ') := rz_cs (pc := 4) (n := 3) (mi := 161) (S := v3 :: v2 :: v1 :: [.ref t0]) (rest := [.ref t0]) rfl rfl (Nat.le_of_ble_eq_true rfl) (Nat.le_of_ble_eq_true rfl)
theorem g150_7 : rg Z d rx_m150 7 L (.int x :: S) (rz_mk h ι, w) = if x = 0 then rg Z d rx_m150 23 L S (rz_mk h ι, w) else rg Z d rx_m150 10 L S (rz_mk h ι, w) := rz_if1 (pc := 7) (t := 23) (off := 16) (cc := .eq) (by decide) rfl
theorem g150_10 : rg Z d rx_m150 10 [l0, l1, some (.int x), l3, l4, l5, l6] S (rz_mk h ι, w) = rg Z d rx_m150 11 [l0, l1, some (.int x), l3, l4, l5, l6] (.int x :: S) (rz_mk h ι, w) := rz_s1 fun _ => rfl
theorem g150_11 : rg Z d rx_m150 11 L S (rz_mk h ι, w) = rg Z d rx_m150 12 L (.int 0 :: S) (rz_mk h ι, w) := rz_s1 fun _ => rfl
theorem g150_12 : rg Z d rx_m150 12 L S (rz_mk h ι, w) = rg Z d rx_m150 13 L (.int 1 :: S) (rz_mk h ι, w) := rz_s1 fun _ => rfl
theorem g150_13 : rg Z d rx_m150 13 L (v3 :: v2 :: v1 :: [.ref t0]) (rz_mk h ι, w) = rz_k true (rz_f Z d 161 [v1, v2, v3] (rz_mk h ι, w)) (fun v σ' => rg Z d rx_m150 16 L (v.toList ++ [.ref t0]) σ') := rz_cs (pc := 13) (n := 3) (mi := 161) (S := v3 :: v2 :: v1 :: [.ref t0]) (rest := [.ref t0]) rfl rfl (Nat.le_of_ble_eq_true rfl) (Nat.le_of_ble_eq_true rfl)
theorem g150_16 : rg Z d rx_m150 16 L (.int x :: S) (rz_mk h ι, w) = if x = 0 then rg Z d rx_m150 23 L S (rz_mk h ι, w) else rg Z d rx_m150 19 L S (rz_mk h ι, w) := rz_if1 (pc := 16) (t := 23) (off := 7) (cc := .eq) (by decide) rfl
theorem g150_19 : rg Z d rx_m150 19 L S (rz_mk h ι, w) = rg Z d rx_m150 20 L (.int 1 :: S) (rz_mk h ι, w) := rz_s1 fun _ => rfl
theorem g150_20 : rg Z d rx_m150 20 L S (rz_mk h ι, w) = rg Z d rx_m150 24 L S (rz_mk h ι, w) := rz_s1 fun _ => rfl
theorem g150_23 : rg Z d rx_m150 23 L S (rz_mk h ι, w) = rg Z d rx_m150 24 L (.int 0 :: S) (rz_mk h ι, w) := rz_s1 fun _ => rfl
theorem g150_24 (c : rz_oc h a 11) : rg Z d rx_m150 24 L (v1 :: .ref a :: []) (rz_mk h ι, w) = rz_k true (rz_f Z d 162 [.ref a, v1] (rz_mk h ι, w)) (fun v σ' => rg Z d rx_m150 27 L (v.toList ++ []) σ') := rz_cv (pc := 24) (n := 1) (mi := 162) (S := v1 :: .ref a :: []) (rest := []) rfl rfl (Nat.le_of_ble_eq_true rfl) (Nat.le_of_ble_eq_true rfl) c
theorem g150_27 : rg Z d rx_m150 27 L S (rz_mk h ι, w) = rg Z d rx_m150 28 L (.int (-1) :: S) (rz_mk h ι, w) := rz_s1 fun _ => rfl
theorem g150_28 : rg Z d rx_m150 28 [l0, l1, some (.int z), l3, l4, l5, l6] (.int x :: S) (rz_mk h ι, w) = rg Z d rx_m150 29 [l0, l1, some (.int z), some (.int x), l4, l5, l6] S (rz_mk h ι, w) := rz_s1 fun _ => rfl
theorem g150_29 : rg Z d rx_m150 29 L S (rz_mk h ι, w) = rg Z d rx_m150 30 L (.int (-1) :: S) (rz_mk h ι, w) := rz_s1 fun _ => rfl
theorem g150_30 : rg Z d rx_m150 30 [l0, l1, l2, some (.int z), l4, l5, l6] (.int x :: S) (rz_mk h ι, w) = rg Z d rx_m150 32 [l0, l1, l2, some (.int z), some (.int x), l5, l6] S (rz_mk h ι, w) := rz_s1 fun _ => rfl
theorem g150_32 : rg Z d rx_m150 32 L S (rz_mk h ι, w) = rg Z d rx_m150 33 L (.int 0 :: S) (rz_mk h ι, w) := rz_s1 fun _ => rfl
theorem g150_33 : rg Z d rx_m150 33 [l0, l1, l2, l3, some (.int z), l5, l6] (.int x :: S) (rz_mk h ι, w) = rg Z d rx_m150 35 [l0, l1, l2, l3, some (.int z), some (.int x), l6] S (rz_mk h ι, w) := rz_s1 fun _ => rfl
theorem g150_35 : rg Z d rx_m150 35 [l0, l1, l2, l3, l4, some (.int x), l6] S (rz_mk h ι, w) = rg Z d rx_m150 37 [l0, l1, l2, l3, l4, some (.int x), l6] (.int x :: S) (rz_mk h ι, w) := rz_s1 fun _ => rfl
theorem g150_37 : rg Z d rx_m150 37 [some (.ref a), l1, l2, l3, l4, l5, l6] S (rz_mk h ι, w) = rg Z d rx_m150 38 [some (.ref a), l1, l2, l3, l4, l5, l6] (.ref a :: S) (rz_mk h ι, w) := rz_s1 fun _ => rfl
theorem g150_38 (c : rz_fR h a 11 11) : rg Z d rx_m150 38 L (.ref a :: S) (rz_mk h ι, w) = rg Z d rx_m150 41 L (rz_rv h a 11 :: S) (rz_mk h ι, w) := rz_gR rfl (by decide) c
theorem g150_41 (c : rz_fI h a 8 3) : rg Z d rx_m150 41 L (.ref a :: S) (rz_mk h ι, w) = rg Z d rx_m150 44 L (.int (ι a 3) :: S) (rz_mk h ι, w) := rz_gI rfl (by decide) c
theorem g150_44 : rg Z d rx_m150 44 L (.int y :: .int x :: S) (rz_mk h ι, w) = if x < y then rg Z d rx_m150 47 L S (rz_mk h ι, w) else rg Z d rx_m150 103 L S (rz_mk h ι, w) := rz_if2 (pc := 44) (t := 103) (off := 59) (cc := .ge) (by decide) rfl
theorem g150_47 : rg Z d rx_m150 47 [some (.ref a), l1, l2, l3, l4, l5, l6] S (rz_mk h ι, w) = rg Z d rx_m150 48 [some (.ref a), l1, l2, l3, l4, l5, l6] (.ref a :: S) (rz_mk h ι, w) := rz_s1 fun _ => rfl
theorem g150_48 (c : rz_fR h a 11 11) : rg Z d rx_m150 48 L (.ref a :: S) (rz_mk h ι, w) = rg Z d rx_m150 51 L (rz_rv h a 11 :: S) (rz_mk h ι, w) := rz_gR rfl (by decide) c
theorem g150_51 : rg Z d rx_m150 51 [l0, l1, l2, l3, l4, some (.int x), l6] S (rz_mk h ι, w) = rg Z d rx_m150 53 [l0, l1, l2, l3, l4, some (.int x), l6] (.int x :: S) (rz_mk h ι, w) := rz_s1 fun _ => rfl
theorem g150_53 (c : rz_oc h a 8) : rg Z d rx_m150 53 L (v1 :: .ref a :: []) (rz_mk h ι, w) = rz_k true (rz_f Z d 68 [.ref a, v1] (rz_mk h ι, w)) (fun v σ' => rg Z d rx_m150 56 L (v.toList ++ []) σ') := rz_cv (pc := 53) (n := 1) (mi := 68) (S := v1 :: .ref a :: []) (rest := []) rfl rfl (Nat.le_of_ble_eq_true rfl) (Nat.le_of_ble_eq_true rfl) c
theorem g150_56 : rg Z d rx_m150 56 L (.int x :: S) (rz_mk h ι, w) = if x = 0 then rg Z d rx_m150 97 L S (rz_mk h ι, w) else rg Z d rx_m150 59 L S (rz_mk h ι, w) := rz_if1 (pc := 56) (t := 97) (off := 41) (cc := .eq) (by decide) rfl
theorem g150_59 : rg Z d rx_m150 59 [some (.ref a), l1, l2, l3, l4, l5, l6] S (rz_mk h ι, w) = rg Z d rx_m150 60 [some (.ref a), l1, l2, l3, l4, l5, l6] (.ref a :: S) (rz_mk h ι, w) := rz_s1 fun _ => rfl
theorem g150_60 (c : rz_fR h a 11 11) : rg Z d rx_m150 60 L (.ref a :: S) (rz_mk h ι, w) = rg Z d rx_m150 63 L (rz_rv h a 11 :: S) (rz_mk h ι, w) := rz_gR rfl (by decide) c
theorem g150_63 : rg Z d rx_m150 63 [l0, l1, l2, l3, l4, some (.int x), l6] S (rz_mk h ι, w) = rg Z d rx_m150 65 [l0, l1, l2, l3, l4, some (.int x), l6] (.int x :: S) (rz_mk h ι, w) := rz_s1 fun _ => rfl
theorem g150_65 : rg Z d rx_m150 65 [l0, some (.int x), l2, l3, l4, l5, l6] S (rz_mk h ι, w) = rg Z d rx_m150 66 [l0, some (.int x), l2, l3, l4, l5, l6] (.int x :: S) (rz_mk h ι, w) := rz_s1 fun _ => rfl
theorem g150_66 (c : rz_oc h a 8) : rg Z d rx_m150 66 L (v2 :: v1 :: .ref a :: []) (rz_mk h ι, w) = rz_k true (rz_f Z d 70 [.ref a, v1, v2] (rz_mk h ι, w)) (fun v σ' => rg Z d rx_m150 69 L (v.toList ++ []) σ') := rz_cv (pc := 66) (n := 2) (mi := 70) (S := v2 :: v1 :: .ref a :: []) (rest := []) rfl rfl (Nat.le_of_ble_eq_true rfl) (Nat.le_of_ble_eq_true rfl) c
theorem g150_69 : rg Z d rx_m150 69 [l0, l1, l2, l3, l4, some (.int z), l6] (.int x :: S) (rz_mk h ι, w) = rg Z d rx_m150 71 [l0, l1, l2, l3, l4, some (.int z), some (.int x)] S (rz_mk h ι, w) := rz_s1 fun _ => rfl
theorem g150_71 : rg Z d rx_m150 71 [l0, l1, l2, some (.int x), l4, l5, l6] S (rz_mk h ι, w) = rg Z d rx_m150 72 [l0, l1, l2, some (.int x), l4, l5, l6] (.int x :: S) (rz_mk h ι, w) := rz_s1 fun _ => rfl
theorem g150_72 : rg Z d rx_m150 72 L S (rz_mk h ι, w) = rg Z d rx_m150 73 L (.int (-1) :: S) (rz_mk h ι, w) := rz_s1 fun _ => rfl
theorem g150_73 : rg Z d rx_m150 73 L (.int y :: .int x :: S) (rz_mk h ι, w) = if x = y then rg Z d rx_m150 76 L S (rz_mk h ι, w) else rg Z d rx_m150 81 L S (rz_mk h ι, w) := rz_if2 (pc := 73) (t := 81) (off := 8) (cc := .ne) (by decide) rfl
theorem g150_76 : rg Z d rx_m150 76 [l0, l1, l2, l3, l4, l5, some (.int x)] S (rz_mk h ι, w) = rg Z d rx_m150 78 [l0, l1, l2, l3, l4, l5, some (.int x)] (.int x :: S) (rz_mk h ι, w) := rz_s1 fun _ => rfl
theorem g150_78 : rg Z d rx_m150 78 L S (rz_mk h ι, w) = rg Z d rx_m150 87 L S (rz_mk h ι, w) := rz_s1 fun _ => rfl
theorem g150_81 : rg Z d rx_m150 81 [l0, l1, l2, some (.int x), l4, l5, l6] S (rz_mk h ι, w) = rg Z d rx_m150 82 [l0, l1, l2, some (.int x), l4, l5, l6] (.int x :: S) (rz_mk h ι, w) := rz_s1 fun _ => rfl
theorem g150_82 : rg Z d rx_m150 82 [l0, l1, l2, l3, l4, l5, some (.int x)] S (rz_mk h ι, w) = rg Z d rx_m150 84 [l0, l1, l2, l3, l4, l5, some (.int x)] (.int x :: S) (rz_mk h ι, w) := rz_s1 fun _ => rfl
theorem g150_84 : rg Z d rx_m150 84 L (.int y :: .int x :: []) (rz_mk h ι, w) = rg Z d rx_m150 87 L (.int (if y < x then y else x) :: []) (rz_mk h ι, w) := rz_min rfl (Nat.le_of_ble_eq_true rfl)
theorem g150_87 : rg Z d rx_m150 87 [l0, l1, some (.int z), l3, l4, l5, l6] (.int x :: S) (rz_mk h ι, w) = rg Z d rx_m150 88 [l0, l1, some (.int z), some (.int x), l4, l5, l6] S (rz_mk h ι, w) := rz_s1 fun _ => rfl
theorem g150_88 : rg Z d rx_m150 88 [l0, l1, l2, l3, some (.int x), l5, l6] S (rz_mk h ι, w) = rg Z d rx_m150 90 [l0, l1, l2, l3, some (.int x), l5, l6] (.int x :: S) (rz_mk h ι, w) := rz_s1 fun _ => rfl
theorem g150_90 : rg Z d rx_m150 90 [l0, l1, l2, l3, l4, l5, some (.int x)] S (rz_mk h ι, w) = rg Z d rx_m150 92 [l0, l1, l2, l3, l4, l5, some (.int x)] (.int x :: S) (rz_mk h ι, w) := rz_s1 fun _ => rfl
theorem g150_92 : rg Z d rx_m150 92 L (.int y :: .int x :: []) (rz_mk h ι, w) = rg Z d rx_m150 95 L (.int (if x < y then y else x) :: []) (rz_mk h ι, w) := rz_max rfl (Nat.le_of_ble_eq_true rfl)
theorem g150_95 : rg Z d rx_m150 95 [l0, l1, l2, some (.int z), l4, l5, l6] (.int x :: S) (rz_mk h ι, w) = rg Z d rx_m150 97 [l0, l1, l2, some (.int z), some (.int x), l5, l6] S (rz_mk h ι, w) := rz_s1 fun _ => rfl
theorem g150_97 : rg Z d rx_m150 97 [l0, l1, l2, l3, some (.int z), some (.int x), l6] S (rz_mk h ι, w) = rg Z d rx_m150 100 [l0, l1, l2, l3, some (.int z), some (.int (x + 1)), l6] S (rz_mk h ι, w) := rz_s1 fun _ => rfl
theorem g150_100 : rg Z d rx_m150 100 L S (rz_mk h ι, w) = rg Z d rx_m150 35 L S (rz_mk h ι, w) := rz_s1 fun _ => rfl
theorem g150_103 : rg Z d rx_m150 103 [l0, l1, some (.int x), l3, l4, l5, l6] S (rz_mk h ι, w) = rg Z d rx_m150 104 [l0, l1, some (.int x), l3, l4, l5, l6] (.int x :: S) (rz_mk h ι, w) := rz_s1 fun _ => rfl
theorem g150_104 : rg Z d rx_m150 104 L (.int x :: S) (rz_mk h ι, w) = if x = 0 then rg Z d rx_m150 107 L S (rz_mk h ι, w) else rg Z d rx_m150 111 L S (rz_mk h ι, w) := rz_if1 (pc := 104) (t := 111) (off := 7) (cc := .ne) (by decide) rfl
theorem g150_107 : rg Z d rx_m150 107 [l0, l1, l2, some (.int x), l4, l5, l6] S (rz_mk h ι, w) = rg Z d rx_m150 108 [l0, l1, l2, some (.int x), l4, l5, l6] (.int x :: S) (rz_mk h ι, w) := rz_s1 fun _ => rfl
theorem g150_108 : rg Z d rx_m150 108 L S (rz_mk h ι, w) = rg Z d rx_m150 113 L S (rz_mk h ι, w) := rz_s1 fun _ => rfl
theorem g150_111 : rg Z d rx_m150 111 [l0, l1, l2, l3, some (.int x), l5, l6] S (rz_mk h ι, w) = rg Z d rx_m150 113 [l0, l1, l2, l3, some (.int x), l5, l6] (.int x :: S) (rz_mk h ι, w) := rz_s1 fun _ => rfl
theorem g150_113 : rg Z d rx_m150 113 L [.int x] (rz_mk h ι, w) = some (.inl (some (.int x)), (rz_mk h ι, w)) := rz_reti rfl rfl rfl
theorem e150 : rz_f Z (d + 1) 150 [.ref t0, .int s1, .int s2] σ = rg Z d rx_m150 0 [some (.ref t0), some (.int s1), some (.int s2), none, none, none, none] [] σ := rz_f_eq rfl (Nat.le_of_ble_eq_true rfl)
theorem g151_0 : rg Z d rx_m151 0 [some (.ref a), l1] S (rz_mk h ι, w) = rg Z d rx_m151 1 [some (.ref a), l1] (.ref a :: S) (rz_mk h ι, w) := rz_s1 fun _ => rfl
theorem g151_1 : rg Z d rx_m151 1 [l0, some (.int x)] S (rz_mk h ι, w) = rg Z d rx_m151 2 [l0, some (.int x)] (.int x :: S) (rz_mk h ι, w) := rz_s1 fun _ => rfl
theorem g151_2 (c : rz_oc h a 11) : rg Z d rx_m151 2 L (v1 :: .ref a :: []) (rz_mk h ι, w) = rz_k true (rz_f Z d 164 [.ref a, v1] (rz_mk h ι, w)) (fun v σ' => rg Z d rx_m151 5 L (v.toList ++ []) σ') := rz_cv (pc := 2) (n := 1) (mi := 164) (S := v1 :: .ref a :: []) (rest := []) rfl rfl (Nat.le_of_ble_eq_true rfl) (Nat.le_of_ble_eq_true rfl) c
theorem g151_5 : rg Z d rx_m151 5 [some (.ref a), l1] S (rz_mk h ι, w) = rg Z d rx_m151 6 [some (.ref a), l1] (.ref a :: S) (rz_mk h ι, w) := rz_s1 fun _ => rfl
theorem g151_6 (c : rz_fR h a 11 11) : rg Z d rx_m151 6 L (.ref a :: S) (rz_mk h ι, w) = rg Z d rx_m151 9 L (rz_rv h a 11 :: S) (rz_mk h ι, w) := rz_gR rfl (by decide) c
theorem g151_9 : rg Z d rx_m151 9 [l0, some (.int x)] S (rz_mk h ι, w) = rg Z d rx_m151 10 [l0, some (.int x)] (.int x :: S) (rz_mk h ι, w) := rz_s1 fun _ => rfl
theorem g151_10 (c : rz_oc h a 8) : rg Z d rx_m151 10 L (v1 :: .ref a :: []) (rz_mk h ι, w) = rz_k true (rz_f Z d 75 [.ref a, v1] (rz_mk h ι, w)) (fun v σ' => rg Z d rx_m151 13 L (v.toList ++ []) σ') := rz_cv (pc := 10) (n := 1) (mi := 75) (S := v1 :: .ref a :: []) (rest := []) rfl rfl (Nat.le_of_ble_eq_true rfl) (Nat.le_of_ble_eq_true rfl) c
theorem g151_13 : rg Z d rx_m151 13 L [.int x] (rz_mk h ι, w) = some (.inl (some (.int x)), (rz_mk h ι, w)) := rz_reti rfl rfl rfl
theorem e151 : rz_f Z (d + 1) 151 [.ref t0, .int s1] σ = rg Z d rx_m151 0 [some (.ref t0), some (.int s1)] [] σ := rz_f_eq rfl (Nat.le_of_ble_eq_true rfl)
theorem g152_0 : rg Z d rx_m152 0 [some (.ref a), l1, l2] S (rz_mk h ι, w) = rg Z d rx_m152 1 [some (.ref a), l1, l2] (.ref a :: S) (rz_mk h ι, w) := rz_s1 fun _ => rfl
theorem g152_1 : rg Z d rx_m152 1 [l0, some (.int x), l2] S (rz_mk h ι, w) = rg Z d rx_m152 2 [l0, some (.int x), l2] (.int x :: S) (rz_mk h ι, w) := rz_s1 fun _ => rfl
theorem g152_2 : rg Z d rx_m152 2 L (.int x :: S) (rz_mk h ι, w) = if x < 0 then rg Z d rx_m152 9 L S (rz_mk h ι, w) else rg Z d rx_m152 5 L S (rz_mk h ι, w) := rz_if1 (pc := 2) (t := 9) (off := 7) (cc := .lt) (by decide) rfl
theorem g152_5 : rg Z d rx_m152 5 L S (rz_mk h ι, w) = rg Z d rx_m152 6 L (.int 1 :: S) (rz_mk h ι, w) := rz_s1 fun _ => rfl
theorem g152_6 : rg Z d rx_m152 6 L S (rz_mk h ι, w) = rg Z d rx_m152 10 L S (rz_mk h ι, w) := rz_s1 fun _ => rfl
theorem g152_9 : rg Z d rx_m152 9 L S (rz_mk h ι, w) = rg Z d rx_m152 10 L (.int 0 :: S) (rz_mk h ι, w) := rz_s1 fun _ => rfl
theorem g152_10 (c : rz_oc h a 11) : rg Z d rx_m152 10 L (v1 :: .ref a :: []) (rz_mk h ι, w) = rz_k true (rz_f Z d 162 [.ref a, v1] (rz_mk h ι, w)) (fun v σ' => rg Z d rx_m152 13 L (v.toList ++ []) σ') := rz_cv (pc := 10) (n := 1) (mi := 162) (S := v1 :: .ref a :: []) (rest := []) rfl rfl (Nat.le_of_ble_eq_true rfl) (Nat.le_of_ble_eq_true rfl) c
theorem g152_13 : rg Z d rx_m152 13 L S (rz_mk h ι, w) = rg Z d rx_m152 14 L (.int 0 :: S) (rz_mk h ι, w) := rz_s1 fun _ => rfl
theorem g152_14 : rg Z d rx_m152 14 [l0, some (.int z), l2] (.int x :: S) (rz_mk h ι, w) = rg Z d rx_m152 15 [l0, some (.int z), some (.int x)] S (rz_mk h ι, w) := rz_s1 fun _ => rfl
theorem g152_15 : rg Z d rx_m152 15 [l0, l1, some (.int x)] S (rz_mk h ι, w) = rg Z d rx_m152 16 [l0, l1, some (.int x)] (.int x :: S) (rz_mk h ι, w) := rz_s1 fun _ => rfl
theorem g152_16 : rg Z d rx_m152 16 [some (.ref a), l1, l2] S (rz_mk h ι, w) = rg Z d rx_m152 17 [some (.ref a), l1, l2] (.ref a :: S) (rz_mk h ι, w) := rz_s1 fun _ => rfl
theorem g152_17 (c : rz_fR h a 11 11) : rg Z d rx_m152 17 L (.ref a :: S) (rz_mk h ι, w) = rg Z d rx_m152 20 L (rz_rv h a 11 :: S) (rz_mk h ι, w) := rz_gR rfl (by decide) c
theorem g152_20 (c : rz_fI h a 8 3) : rg Z d rx_m152 20 L (.ref a :: S) (rz_mk h ι, w) = rg Z d rx_m152 23 L (.int (ι a 3) :: S) (rz_mk h ι, w) := rz_gI rfl (by decide) c
theorem g152_23 : rg Z d rx_m152 23 L (.int y :: .int x :: S) (rz_mk h ι, w) = if x < y then rg Z d rx_m152 26 L S (rz_mk h ι, w) else rg Z d rx_m152 65 L S (rz_mk h ι, w) := rz_if2 (pc := 23) (t := 65) (off := 42) (cc := .ge) (by decide) rfl
theorem g152_26 : rg Z d rx_m152 26 [some (.ref a), l1, l2] S (rz_mk h ι, w) = rg Z d rx_m152 27 [some (.ref a), l1, l2] (.ref a :: S) (rz_mk h ι, w) := rz_s1 fun _ => rfl
theorem g152_27 (c : rz_fR h a 11 11) : rg Z d rx_m152 27 L (.ref a :: S) (rz_mk h ι, w) = rg Z d rx_m152 30 L (rz_rv h a 11 :: S) (rz_mk h ι, w) := rz_gR rfl (by decide) c
theorem g152_30 : rg Z d rx_m152 30 [l0, l1, some (.int x)] S (rz_mk h ι, w) = rg Z d rx_m152 31 [l0, l1, some (.int x)] (.int x :: S) (rz_mk h ι, w) := rz_s1 fun _ => rfl
theorem g152_31 (c : rz_oc h a 8) : rg Z d rx_m152 31 L (v1 :: .ref a :: []) (rz_mk h ι, w) = rz_k true (rz_f Z d 68 [.ref a, v1] (rz_mk h ι, w)) (fun v σ' => rg Z d rx_m152 34 L (v.toList ++ []) σ') := rz_cv (pc := 31) (n := 1) (mi := 68) (S := v1 :: .ref a :: []) (rest := []) rfl rfl (Nat.le_of_ble_eq_true rfl) (Nat.le_of_ble_eq_true rfl) c
theorem g152_34 : rg Z d rx_m152 34 L (.int x :: S) (rz_mk h ι, w) = if x = 0 then rg Z d rx_m152 59 L S (rz_mk h ι, w) else rg Z d rx_m152 37 L S (rz_mk h ι, w) := rz_if1 (pc := 34) (t := 59) (off := 25) (cc := .eq) (by decide) rfl
theorem g152_37 : rg Z d rx_m152 37 [l0, l1, some (.int x)] S (rz_mk h ι, w) = rg Z d rx_m152 38 [l0, l1, some (.int x)] (.int x :: S) (rz_mk h ι, w) := rz_s1 fun _ => rfl
theorem g152_38 : rg Z d rx_m152 38 [some (.ref a), l1, l2] S (rz_mk h ι, w) = rg Z d rx_m152 39 [some (.ref a), l1, l2] (.ref a :: S) (rz_mk h ι, w) := rz_s1 fun _ => rfl
theorem g152_39 (c : rz_fR h a 11 11) : rg Z d rx_m152 39 L (.ref a :: S) (rz_mk h ι, w) = rg Z d rx_m152 42 L (rz_rv h a 11 :: S) (rz_mk h ι, w) := rz_gR rfl (by decide) c
theorem g152_42 (c : rz_fI h a 8 5) : rg Z d rx_m152 42 L (.ref a :: S) (rz_mk h ι, w) = rg Z d rx_m152 45 L (.int (ι a 5) :: S) (rz_mk h ι, w) := rz_gI rfl (by decide) c
theorem g152_45 : rg Z d rx_m152 45 L (.int y :: .int x :: S) (rz_mk h ι, w) = if x = y then rg Z d rx_m152 59 L S (rz_mk h ι, w) else rg Z d rx_m152 48 L S (rz_mk h ι, w) := rz_if2 (pc := 45) (t := 59) (off := 14) (cc := .eq) (by decide) rfl
theorem g152_48 : rg Z d rx_m152 48 [some (.ref a), l1, l2] S (rz_mk h ι, w) = rg Z d rx_m152 49 [some (.ref a), l1, l2] (.ref a :: S) (rz_mk h ι, w) := rz_s1 fun _ => rfl
theorem g152_49 : rg Z d rx_m152 49 [l0, l1, some (.int x)] S (rz_mk h ι, w) = rg Z d rx_m152 50 [l0, l1, some (.int x)] (.int x :: S) (rz_mk h ι, w) := rz_s1 fun _ => rfl
theorem g152_50 (c : rz_oc h a 11) : rg Z d rx_m152 50 L (v1 :: .ref a :: []) (rz_mk h ι, w) = rz_k true (rz_f Z d 167 [.ref a, v1] (rz_mk h ι, w)) (fun v σ' => rg Z d rx_m152 53 L (v.toList ++ []) σ') := rz_cv (pc := 50) (n := 1) (mi := 167) (S := v1 :: .ref a :: []) (rest := []) rfl rfl (Nat.le_of_ble_eq_true rfl) (Nat.le_of_ble_eq_true rfl) c
theorem g152_53 : rg Z d rx_m152 53 [l0, some (.int x), l2] S (rz_mk h ι, w) = rg Z d rx_m152 54 [l0, some (.int x), l2] (.int x :: S) (rz_mk h ι, w) := rz_s1 fun _ => rfl
theorem g152_54 : rg Z d rx_m152 54 L (.int y :: .int x :: S) (rz_mk h ι, w) = if x = y then rg Z d rx_m152 57 L S (rz_mk h ι, w) else rg Z d rx_m152 59 L S (rz_mk h ι, w) := rz_if2 (pc := 54) (t := 59) (off := 5) (cc := .ne) (by decide) rfl
theorem g152_57 : rg Z d rx_m152 57 [l0, l1, some (.int x)] S (rz_mk h ι, w) = rg Z d rx_m152 58 [l0, l1, some (.int x)] (.int x :: S) (rz_mk h ι, w) := rz_s1 fun _ => rfl
theorem g152_58 : rg Z d rx_m152 58 L [.int x] (rz_mk h ι, w) = some (.inl (some (.int x)), (rz_mk h ι, w)) := rz_reti rfl rfl rfl
theorem g152_59 : rg Z d rx_m152 59 [l0, some (.int z), some (.int x)] S (rz_mk h ι, w) = rg Z d rx_m152 62 [l0, some (.int z), some (.int (x + 1))] S (rz_mk h ι, w) := rz_s1 fun _ => rfl
theorem g152_62 : rg Z d rx_m152 62 L S (rz_mk h ι, w) = rg Z d rx_m152 15 L S (rz_mk h ι, w) := rz_s1 fun _ => rfl
theorem g152_65 : rg Z d rx_m152 65 L S (rz_mk h ι, w) = rg Z d rx_m152 66 L (.int (-1) :: S) (rz_mk h ι, w) := rz_s1 fun _ => rfl
theorem g152_66 : rg Z d rx_m152 66 L [.int x] (rz_mk h ι, w) = some (.inl (some (.int x)), (rz_mk h ι, w)) := rz_reti rfl rfl rfl
theorem e152 : rz_f Z (d + 1) 152 [.ref t0, .int s1] σ = rg Z d rx_m152 0 [some (.ref t0), some (.int s1), none] [] σ := rz_f_eq rfl (Nat.le_of_ble_eq_true rfl)
theorem g153_0 : rg Z d rx_m153 0 [some (.ref a), l1, l2, l3] S (rz_mk h ι, w) = rg Z d rx_m153 1 [some (.ref a), l1, l2, l3] (.ref a :: S) (rz_mk h ι, w) := rz_s1 fun _ => rfl
theorem g153_1 : rg Z d rx_m153 1 [l0, some (.int x), l2, l3] S (rz_mk h ι, w) = rg Z d rx_m153 2 [l0, some (.int x), l2, l3] (.int x :: S) (rz_mk h ι, w) := rz_s1 fun _ => rfl
theorem g153_2 : rg Z d rx_m153 2 L S (rz_mk h ι, w) = rg Z d rx_m153 3 L (.int 0 :: S) (rz_mk h ι, w) := rz_s1 fun _ => rfl
theorem g153_3 : rg Z d rx_m153 3 L S (rz_mk h ι, w) = rg Z d rx_m153 5 L (.int 99 :: S) (rz_mk h ι, w) := rz_s1 fun _ => rfl
theorem g153_5 : rg Z d rx_m153 5 L (v3 :: v2 :: v1 :: [.ref t0]) (rz_mk h ι, w) = rz_k true (rz_f Z d 161 [v1, v2, v3] (rz_mk h ι, w)) (fun v σ' => rg Z d rx_m153 8 L (v.toList ++ [.ref t0]) σ') := rz_cs (pc := 5) (n := 3) (mi := 161) (S := v3 :: v2 :: v1 :: [.ref t0]) (rest := [.ref t0]) rfl rfl (Nat.le_of_ble_eq_true rfl) (Nat.le_of_ble_eq_true rfl)
theorem g153_8 (c : rz_oc h a 11) : rg Z d rx_m153 8 L (v1 :: .ref a :: []) (rz_mk h ι, w) = rz_k true (rz_f Z d 162 [.ref a, v1] (rz_mk h ι, w)) (fun v σ' => rg Z d rx_m153 11 L (v.toList ++ []) σ') := rz_cv (pc := 8) (n := 1) (mi := 162) (S := v1 :: .ref a :: []) (rest := []) rfl rfl (Nat.le_of_ble_eq_true rfl) (Nat.le_of_ble_eq_true rfl) c
theorem g153_11 : rg Z d rx_m153 11 L S (rz_mk h ι, w) = rg Z d rx_m153 12 L (.int 0 :: S) (rz_mk h ι, w) := rz_s1 fun _ => rfl
theorem g153_12 : rg Z d rx_m153 12 [l0, some (.int z), l2, l3] (.int x :: S) (rz_mk h ι, w) = rg Z d rx_m153 13 [l0, some (.int z), some (.int x), l3] S (rz_mk h ι, w) := rz_s1 fun _ => rfl
theorem g153_13 : rg Z d rx_m153 13 L S (rz_mk h ι, w) = rg Z d rx_m153 14 L (.int 0 :: S) (rz_mk h ι, w) := rz_s1 fun _ => rfl
theorem g153_14 : rg Z d rx_m153 14 [l0, l1, some (.int z), l3] (.int x :: S) (rz_mk h ι, w) = rg Z d rx_m153 15 [l0, l1, some (.int z), some (.int x)] S (rz_mk h ι, w) := rz_s1 fun _ => rfl
theorem g153_15 : rg Z d rx_m153 15 [l0, l1, l2, some (.int x)] S (rz_mk h ι, w) = rg Z d rx_m153 16 [l0, l1, l2, some (.int x)] (.int x :: S) (rz_mk h ι, w) := rz_s1 fun _ => rfl
theorem g153_16 : rg Z d rx_m153 16 [some (.ref a), l1, l2, l3] S (rz_mk h ι, w) = rg Z d rx_m153 17 [some (.ref a), l1, l2, l3] (.ref a :: S) (rz_mk h ι, w) := rz_s1 fun _ => rfl
theorem g153_17 (c : rz_fR h a 11 11) : rg Z d rx_m153 17 L (.ref a :: S) (rz_mk h ι, w) = rg Z d rx_m153 20 L (rz_rv h a 11 :: S) (rz_mk h ι, w) := rz_gR rfl (by decide) c
theorem g153_20 (c : rz_fI h a 8 3) : rg Z d rx_m153 20 L (.ref a :: S) (rz_mk h ι, w) = rg Z d rx_m153 23 L (.int (ι a 3) :: S) (rz_mk h ι, w) := rz_gI rfl (by decide) c
theorem g153_23 : rg Z d rx_m153 23 L (.int y :: .int x :: S) (rz_mk h ι, w) = if x < y then rg Z d rx_m153 26 L S (rz_mk h ι, w) else rg Z d rx_m153 69 L S (rz_mk h ι, w) := rz_if2 (pc := 23) (t := 69) (off := 46) (cc := .ge) (by decide) rfl
theorem g153_26 : rg Z d rx_m153 26 [some (.ref a), l1, l2, l3] S (rz_mk h ι, w) = rg Z d rx_m153 27 [some (.ref a), l1, l2, l3] (.ref a :: S) (rz_mk h ι, w) := rz_s1 fun _ => rfl
theorem g153_27 (c : rz_fR h a 11 11) : rg Z d rx_m153 27 L (.ref a :: S) (rz_mk h ι, w) = rg Z d rx_m153 30 L (rz_rv h a 11 :: S) (rz_mk h ι, w) := rz_gR rfl (by decide) c
theorem g153_30 : rg Z d rx_m153 30 [l0, l1, l2, some (.int x)] S (rz_mk h ι, w) = rg Z d rx_m153 31 [l0, l1, l2, some (.int x)] (.int x :: S) (rz_mk h ι, w) := rz_s1 fun _ => rfl
theorem g153_31 (c : rz_oc h a 8) : rg Z d rx_m153 31 L (v1 :: .ref a :: []) (rz_mk h ι, w) = rz_k true (rz_f Z d 68 [.ref a, v1] (rz_mk h ι, w)) (fun v σ' => rg Z d rx_m153 34 L (v.toList ++ []) σ') := rz_cv (pc := 31) (n := 1) (mi := 68) (S := v1 :: .ref a :: []) (rest := []) rfl rfl (Nat.le_of_ble_eq_true rfl) (Nat.le_of_ble_eq_true rfl) c
theorem g153_34 : rg Z d rx_m153 34 L (.int x :: S) (rz_mk h ι, w) = if x = 0 then rg Z d rx_m153 63 L S (rz_mk h ι, w) else rg Z d rx_m153 37 L S (rz_mk h ι, w) := rz_if1 (pc := 34) (t := 63) (off := 29) (cc := .eq) (by decide) rfl
theorem g153_37 : rg Z d rx_m153 37 [some (.ref a), l1, l2, l3] S (rz_mk h ι, w) = rg Z d rx_m153 38 [some (.ref a), l1, l2, l3] (.ref a :: S) (rz_mk h ι, w) := rz_s1 fun _ => rfl
theorem g153_38 (c : rz_fR h a 11 5) : rg Z d rx_m153 38 L (.ref a :: S) (rz_mk h ι, w) = rg Z d rx_m153 41 L (rz_rv h a 5 :: S) (rz_mk h ι, w) := rz_gR rfl (by decide) c
theorem g153_41 : rg Z d rx_m153 41 [some (.ref a), l1, l2, l3] S (rz_mk h ι, w) = rg Z d rx_m153 42 [some (.ref a), l1, l2, l3] (.ref a :: S) (rz_mk h ι, w) := rz_s1 fun _ => rfl
theorem g153_42 (c : rz_fR h a 11 11) : rg Z d rx_m153 42 L (.ref a :: S) (rz_mk h ι, w) = rg Z d rx_m153 45 L (rz_rv h a 11 :: S) (rz_mk h ι, w) := rz_gR rfl (by decide) c
theorem g153_45 : rg Z d rx_m153 45 [some (.ref a), l1, l2, l3] S (rz_mk h ι, w) = rg Z d rx_m153 46 [some (.ref a), l1, l2, l3] (.ref a :: S) (rz_mk h ι, w) := rz_s1 fun _ => rfl
theorem g153_46 (c : rz_fR h a 11 10) : rg Z d rx_m153 46 L (.ref a :: S) (rz_mk h ι, w) = rg Z d rx_m153 49 L (rz_rv h a 10 :: S) (rz_mk h ι, w) := rz_gR rfl (by decide) c
theorem g153_49 : rg Z d rx_m153 49 [l0, l1, l2, some (.int x)] S (rz_mk h ι, w) = rg Z d rx_m153 50 [l0, l1, l2, some (.int x)] (.int x :: S) (rz_mk h ι, w) := rz_s1 fun _ => rfl
theorem g153_50 : rg Z d rx_m153 50 [l0, some (.int x), l2, l3] S (rz_mk h ι, w) = rg Z d rx_m153 51 [l0, some (.int x), l2, l3] (.int x :: S) (rz_mk h ι, w) := rz_s1 fun _ => rfl
theorem g153_51 (c : rz_oc h a 2) : rg Z d rx_m153 51 L (v4 :: v3 :: v2 :: v1 :: .ref a :: []) (rz_mk h ι, w) = rz_k true (rz_f Z d 18 [.ref a, v1, v2, v3, v4] (rz_mk h ι, w)) (fun v σ' => rg Z d rx_m153 54 L (v.toList ++ []) σ') := rz_cv (pc := 51) (n := 4) (mi := 18) (S := v4 :: v3 :: v2 :: v1 :: .ref a :: []) (rest := []) rfl rfl (Nat.le_of_ble_eq_true rfl) (Nat.le_of_ble_eq_true rfl) c
theorem g153_54 : rg Z d rx_m153 54 L (.int x :: S) (rz_mk h ι, w) = if x = 0 then rg Z d rx_m153 63 L S (rz_mk h ι, w) else rg Z d rx_m153 57 L S (rz_mk h ι, w) := rz_if1 (pc := 54) (t := 63) (off := 9) (cc := .eq) (by decide) rfl
theorem g153_57 : rg Z d rx_m153 57 [l0, l1, some (.int x), l3] S (rz_mk h ι, w) = rg Z d rx_m153 58 [l0, l1, some (.int x), l3] (.int x :: S) (rz_mk h ι, w) := rz_s1 fun _ => rfl
theorem g153_58 : rg Z d rx_m153 58 L S (rz_mk h ι, w) = rg Z d rx_m153 59 L (.int 1 :: S) (rz_mk h ι, w) := rz_s1 fun _ => rfl
theorem g153_59 : rg Z d rx_m153 59 [l0, l1, l2, some (.int x)] S (rz_mk h ι, w) = rg Z d rx_m153 60 [l0, l1, l2, some (.int x)] (.int x :: S) (rz_mk h ι, w) := rz_s1 fun _ => rfl
theorem g153_60 : rg Z d rx_m153 60 L (.int y :: .int x :: S) (rz_mk h ι, w) = rg Z d rx_m153 61 L (.int (x <<< (y &&& 31)) :: S) (rz_mk h ι, w) := rz_s1 fun _ => rfl
theorem g153_61 : rg Z d rx_m153 61 L (.int y :: .int x :: S) (rz_mk h ι, w) = rg Z d rx_m153 62 L (.int (x ||| y) :: S) (rz_mk h ι, w) := rz_s1 fun _ => rfl
theorem g153_62 : rg Z d rx_m153 62 [l0, some (.int z), l2, l3] (.int x :: S) (rz_mk h ι, w) = rg Z d rx_m153 63 [l0, some (.int z), some (.int x), l3] S (rz_mk h ι, w) := rz_s1 fun _ => rfl
theorem g153_63 : rg Z d rx_m153 63 [l0, l1, some (.int z), some (.int x)] S (rz_mk h ι, w) = rg Z d rx_m153 66 [l0, l1, some (.int z), some (.int (x + 1))] S (rz_mk h ι, w) := rz_s1 fun _ => rfl
theorem g153_66 : rg Z d rx_m153 66 L S (rz_mk h ι, w) = rg Z d rx_m153 15 L S (rz_mk h ι, w) := rz_s1 fun _ => rfl
theorem g153_69 : rg Z d rx_m153 69 [l0, l1, some (.int x), l3] S (rz_mk h ι, w) = rg Z d rx_m153 70 [l0, l1, some (.int x), l3] (.int x :: S) (rz_mk h ι, w) := rz_s1 fun _ => rfl
theorem g153_70 : rg Z d rx_m153 70 L [.int x] (rz_mk h ι, w) = some (.inl (some (.int x)), (rz_mk h ι, w)) := rz_reti rfl rfl rfl
theorem e153 : rz_f Z (d + 1) 153 [.ref t0, .int s1] σ = rg Z d rx_m153 0 [some (.ref t0), some (.int s1), none, none] [] σ := rz_f_eq rfl (Nat.le_of_ble_eq_true rfl)
theorem g154_0 : rg Z d rx_m154 0 [some (.ref a), l1] S (rz_mk h ι, w) = rg Z d rx_m154 1 [some (.ref a), l1] (.ref a :: S) (rz_mk h ι, w) := rz_s1 fun _ => rfl
theorem g154_1 : rg Z d rx_m154 1 [l0, some (.int x)] S (rz_mk h ι, w) = rg Z d rx_m154 2 [l0, some (.int x)] (.int x :: S) (rz_mk h ι, w) := rz_s1 fun _ => rfl
theorem g154_2 (c : rz_oc h a 11) : rg Z d rx_m154 2 L (v1 :: .ref a :: []) (rz_mk h ι, w) = rz_k true (rz_f Z d 164 [.ref a, v1] (rz_mk h ι, w)) (fun v σ' => rg Z d rx_m154 5 L (v.toList ++ []) σ') := rz_cv (pc := 2) (n := 1) (mi := 164) (S := v1 :: .ref a :: []) (rest := []) rfl rfl (Nat.le_of_ble_eq_true rfl) (Nat.le_of_ble_eq_true rfl) c
theorem g154_5 : rg Z d rx_m154 5 [some (.ref a), l1] S (rz_mk h ι, w) = rg Z d rx_m154 6 [some (.ref a), l1] (.ref a :: S) (rz_mk h ι, w) := rz_s1 fun _ => rfl
theorem g154_6 (c : rz_fR h a 11 11) : rg Z d rx_m154 6 L (.ref a :: S) (rz_mk h ι, w) = rg Z d rx_m154 9 L (rz_rv h a 11 :: S) (rz_mk h ι, w) := rz_gR rfl (by decide) c
theorem g154_9 (c : rz_fI h a 8 5) : rg Z d rx_m154 9 L (.ref a :: S) (rz_mk h ι, w) = rg Z d rx_m154 12 L (.int (ι a 5) :: S) (rz_mk h ι, w) := rz_gI rfl (by decide) c
theorem g154_12 : rg Z d rx_m154 12 L S (rz_mk h ι, w) = rg Z d rx_m154 13 L (.int (-1) :: S) (rz_mk h ι, w) := rz_s1 fun _ => rfl
theorem g154_13 : rg Z d rx_m154 13 L (.int y :: .int x :: S) (rz_mk h ι, w) = if x = y then rg Z d rx_m154 16 L S (rz_mk h ι, w) else rg Z d rx_m154 20 L S (rz_mk h ι, w) := rz_if2 (pc := 13) (t := 20) (off := 7) (cc := .ne) (by decide) rfl
theorem g154_16 : rg Z d rx_m154 16 L S (rz_mk h ι, w) = rg Z d rx_m154 17 L (.int 0 :: S) (rz_mk h ι, w) := rz_s1 fun _ => rfl
theorem g154_17 : rg Z d rx_m154 17 L S (rz_mk h ι, w) = rg Z d rx_m154 35 L S (rz_mk h ι, w) := rz_s1 fun _ => rfl
theorem g154_20 : rg Z d rx_m154 20 [some (.ref a), l1] S (rz_mk h ι, w) = rg Z d rx_m154 21 [some (.ref a), l1] (.ref a :: S) (rz_mk h ι, w) := rz_s1 fun _ => rfl
theorem g154_21 (c : rz_fR h a 11 11) : rg Z d rx_m154 21 L (.ref a :: S) (rz_mk h ι, w) = rg Z d rx_m154 24 L (rz_rv h a 11 :: S) (rz_mk h ι, w) := rz_gR rfl (by decide) c
theorem g154_24 : rg Z d rx_m154 24 [l0, some (.int x)] S (rz_mk h ι, w) = rg Z d rx_m154 25 [l0, some (.int x)] (.int x :: S) (rz_mk h ι, w) := rz_s1 fun _ => rfl
theorem g154_25 : rg Z d rx_m154 25 [some (.ref a), l1] S (rz_mk h ι, w) = rg Z d rx_m154 26 [some (.ref a), l1] (.ref a :: S) (rz_mk h ι, w) := rz_s1 fun _ => rfl
theorem g154_26 (c : rz_fR h a 11 11) : rg Z d rx_m154 26 L (.ref a :: S) (rz_mk h ι, w) = rg Z d rx_m154 29 L (rz_rv h a 11 :: S) (rz_mk h ι, w) := rz_gR rfl (by decide) c
theorem g154_29 (c : rz_fI h a 8 5) : rg Z d rx_m154 29 L (.ref a :: S) (rz_mk h ι, w) = rg Z d rx_m154 32 L (.int (ι a 5) :: S) (rz_mk h ι, w) := rz_gI rfl (by decide) c
theorem g154_32 (c : rz_oc h a 8) : rg Z d rx_m154 32 L (v2 :: v1 :: .ref a :: []) (rz_mk h ι, w) = rz_k true (rz_f Z d 74 [.ref a, v1, v2] (rz_mk h ι, w)) (fun v σ' => rg Z d rx_m154 35 L (v.toList ++ []) σ') := rz_cv (pc := 32) (n := 2) (mi := 74) (S := v2 :: v1 :: .ref a :: []) (rest := []) rfl rfl (Nat.le_of_ble_eq_true rfl) (Nat.le_of_ble_eq_true rfl) c
theorem g154_35 : rg Z d rx_m154 35 L [.int x] (rz_mk h ι, w) = some (.inl (some (.int x)), (rz_mk h ι, w)) := rz_reti rfl rfl rfl
theorem e154 : rz_f Z (d + 1) 154 [.ref t0, .int s1] σ = rg Z d rx_m154 0 [some (.ref t0), some (.int s1)] [] σ := rz_f_eq rfl (Nat.le_of_ble_eq_true rfl)
theorem g155_0 : rg Z d rx_m155 0 [some (.ref a), l1, l2, l3, l4] S (rz_mk h ι, w) = rg Z d rx_m155 1 [some (.ref a), l1, l2, l3, l4] (.ref a :: S) (rz_mk h ι, w) := rz_s1 fun _ => rfl
theorem g155_1 : rg Z d rx_m155 1 [l0, l1, some (.int x), l3, l4] S (rz_mk h ι, w) = rg Z d rx_m155 2 [l0, l1, some (.int x), l3, l4] (.int x :: S) (rz_mk h ι, w) := rz_s1 fun _ => rfl
theorem g155_2 : rg Z d rx_m155 2 L S (rz_mk h ι, w) = rg Z d rx_m155 3 L (.int 1 :: S) (rz_mk h ι, w) := rz_s1 fun _ => rfl
theorem g155_3 : rg Z d rx_m155 3 L S (rz_mk h ι, w) = rg Z d rx_m155 5 L (.int 96 :: S) (rz_mk h ι, w) := rz_s1 fun _ => rfl
theorem g155_5 : rg Z d rx_m155 5 L (v3 :: v2 :: v1 :: [.ref t0]) (rz_mk h ι, w) = rz_k true (rz_f Z d 161 [v1, v2, v3] (rz_mk h ι, w)) (fun v σ' => rg Z d rx_m155 8 L (v.toList ++ [.ref t0]) σ') := rz_cs (pc := 5) (n := 3) (mi := 161) (S := v3 :: v2 :: v1 :: [.ref t0]) (rest := [.ref t0]) rfl rfl (Nat.le_of_ble_eq_true rfl) (Nat.le_of_ble_eq_true rfl)
theorem g155_8 : rg Z d rx_m155 8 L (.int x :: S) (rz_mk h ι, w) = if x = 0 then rg Z d rx_m155 35 L S (rz_mk h ι, w) else rg Z d rx_m155 11 L S (rz_mk h ι, w) := rz_if1 (pc := 8) (t := 35) (off := 27) (cc := .eq) (by decide) rfl
theorem g155_11 : rg Z d rx_m155 11 [l0, l1, l2, some (.int x), l4] S (rz_mk h ι, w) = rg Z d rx_m155 12 [l0, l1, l2, some (.int x), l4] (.int x :: S) (rz_mk h ι, w) := rz_s1 fun _ => rfl
theorem g155_12 : rg Z d rx_m155 12 L S (rz_mk h ι, w) = rg Z d rx_m155 13 L (.int 0 :: S) (rz_mk h ι, w) := rz_s1 fun _ => rfl
theorem g155_13 : rg Z d rx_m155 13 L S (rz_mk h ι, w) = rg Z d rx_m155 15 L (.int 16 :: S) (rz_mk h ι, w) := rz_s1 fun _ => rfl
theorem g155_15 : rg Z d rx_m155 15 L (v3 :: v2 :: v1 :: [.ref t0]) (rz_mk h ι, w) = rz_k true (rz_f Z d 161 [v1, v2, v3] (rz_mk h ι, w)) (fun v σ' => rg Z d rx_m155 18 L (v.toList ++ [.ref t0]) σ') := rz_cs (pc := 15) (n := 3) (mi := 161) (S := v3 :: v2 :: v1 :: [.ref t0]) (rest := [.ref t0]) rfl rfl (Nat.le_of_ble_eq_true rfl) (Nat.le_of_ble_eq_true rfl)
theorem g155_18 : rg Z d rx_m155 18 L (.int x :: S) (rz_mk h ι, w) = if x = 0 then rg Z d rx_m155 35 L S (rz_mk h ι, w) else rg Z d rx_m155 21 L S (rz_mk h ι, w) := rz_if1 (pc := 18) (t := 35) (off := 17) (cc := .eq) (by decide) rfl
theorem g155_21 : rg Z d rx_m155 21 [l0, l1, l2, l3, some (.int x)] S (rz_mk h ι, w) = rg Z d rx_m155 23 [l0, l1, l2, l3, some (.int x)] (.int x :: S) (rz_mk h ι, w) := rz_s1 fun _ => rfl
theorem g155_23 : rg Z d rx_m155 23 L S (rz_mk h ι, w) = rg Z d rx_m155 24 L (.int 0 :: S) (rz_mk h ι, w) := rz_s1 fun _ => rfl
theorem g155_24 : rg Z d rx_m155 24 L S (rz_mk h ι, w) = rg Z d rx_m155 25 L (.int 3 :: S) (rz_mk h ι, w) := rz_s1 fun _ => rfl
theorem g155_25 : rg Z d rx_m155 25 L (v3 :: v2 :: v1 :: [.ref t0]) (rz_mk h ι, w) = rz_k true (rz_f Z d 161 [v1, v2, v3] (rz_mk h ι, w)) (fun v σ' => rg Z d rx_m155 28 L (v.toList ++ [.ref t0]) σ') := rz_cs (pc := 25) (n := 3) (mi := 161) (S := v3 :: v2 :: v1 :: [.ref t0]) (rest := [.ref t0]) rfl rfl (Nat.le_of_ble_eq_true rfl) (Nat.le_of_ble_eq_true rfl)
theorem g155_28 : rg Z d rx_m155 28 L (.int x :: S) (rz_mk h ι, w) = if x = 0 then rg Z d rx_m155 35 L S (rz_mk h ι, w) else rg Z d rx_m155 31 L S (rz_mk h ι, w) := rz_if1 (pc := 28) (t := 35) (off := 7) (cc := .eq) (by decide) rfl
theorem g155_31 : rg Z d rx_m155 31 L S (rz_mk h ι, w) = rg Z d rx_m155 32 L (.int 1 :: S) (rz_mk h ι, w) := rz_s1 fun _ => rfl
theorem g155_32 : rg Z d rx_m155 32 L S (rz_mk h ι, w) = rg Z d rx_m155 36 L S (rz_mk h ι, w) := rz_s1 fun _ => rfl
theorem g155_35 : rg Z d rx_m155 35 L S (rz_mk h ι, w) = rg Z d rx_m155 36 L (.int 0 :: S) (rz_mk h ι, w) := rz_s1 fun _ => rfl
theorem g155_36 (c : rz_oc h a 11) : rg Z d rx_m155 36 L (v1 :: .ref a :: []) (rz_mk h ι, w) = rz_k true (rz_f Z d 162 [.ref a, v1] (rz_mk h ι, w)) (fun v σ' => rg Z d rx_m155 39 L (v.toList ++ []) σ') := rz_cv (pc := 36) (n := 1) (mi := 162) (S := v1 :: .ref a :: []) (rest := []) rfl rfl (Nat.le_of_ble_eq_true rfl) (Nat.le_of_ble_eq_true rfl) c
theorem g155_39 : rg Z d rx_m155 39 [some (.ref a), l1, l2, l3, l4] S (rz_mk h ι, w) = rg Z d rx_m155 40 [some (.ref a), l1, l2, l3, l4] (.ref a :: S) (rz_mk h ι, w) := rz_s1 fun _ => rfl
theorem g155_40 (c : rz_fR h a 11 7) : rg Z d rx_m155 40 L (.ref a :: S) (rz_mk h ι, w) = rg Z d rx_m155 43 L (rz_rv h a 7 :: S) (rz_mk h ι, w) := rz_gR rfl (by decide) c
theorem g155_43 : rg Z d rx_m155 43 [some (.ref a), l1, l2, l3, l4] S (rz_mk h ι, w) = rg Z d rx_m155 44 [some (.ref a), l1, l2, l3, l4] (.ref a :: S) (rz_mk h ι, w) := rz_s1 fun _ => rfl
theorem g155_44 (c : rz_fR h a 11 11) : rg Z d rx_m155 44 L (.ref a :: S) (rz_mk h ι, w) = rg Z d rx_m155 47 L (rz_rv h a 11 :: S) (rz_mk h ι, w) := rz_gR rfl (by decide) c
theorem g155_47 (c : rz_oc h a 8) : rg Z d rx_m155 47 L (v1 :: .ref a :: []) (rz_mk h ι, w) = rz_k true (rz_f Z d 66 [.ref a, v1] (rz_mk h ι, w)) (fun v σ' => rg Z d rx_m155 50 L (v.toList ++ []) σ') := rz_cv (pc := 47) (n := 1) (mi := 66) (S := v1 :: .ref a :: []) (rest := []) rfl rfl (Nat.le_of_ble_eq_true rfl) (Nat.le_of_ble_eq_true rfl) c
theorem g155_50 : rg Z d rx_m155 50 [some (.ref a), l1, l2, l3, l4] S (rz_mk h ι, w) = rg Z d rx_m155 51 [some (.ref a), l1, l2, l3, l4] (.ref a :: S) (rz_mk h ι, w) := rz_s1 fun _ => rfl
theorem g155_51 (c : rz_fR h a 11 8) : rg Z d rx_m155 51 L (.ref a :: S) (rz_mk h ι, w) = rg Z d rx_m155 54 L (rz_rv h a 8 :: S) (rz_mk h ι, w) := rz_gR rfl (by decide) c
theorem g155_54 : rg Z d rx_m155 54 [some (.ref a), l1, l2, l3, l4] S (rz_mk h ι, w) = rg Z d rx_m155 55 [some (.ref a), l1, l2, l3, l4] (.ref a :: S) (rz_mk h ι, w) := rz_s1 fun _ => rfl
theorem g155_55 (c : rz_fR h a 11 7) : rg Z d rx_m155 55 L (.ref a :: S) (rz_mk h ι, w) = rg Z d rx_m155 58 L (rz_rv h a 7 :: S) (rz_mk h ι, w) := rz_gR rfl (by decide) c
theorem g155_58 : rg Z d rx_m155 58 [some (.ref a), l1, l2, l3, l4] S (rz_mk h ι, w) = rg Z d rx_m155 59 [some (.ref a), l1, l2, l3, l4] (.ref a :: S) (rz_mk h ι, w) := rz_s1 fun _ => rfl
theorem g155_59 (c : rz_fR h a 11 10) : rg Z d rx_m155 59 L (.ref a :: S) (rz_mk h ι, w) = rg Z d rx_m155 62 L (rz_rv h a 10 :: S) (rz_mk h ι, w) := rz_gR rfl (by decide) c
theorem g155_62 : rg Z d rx_m155 62 [l0, some (.int x), l2, l3, l4] S (rz_mk h ι, w) = rg Z d rx_m155 63 [l0, some (.int x), l2, l3, l4] (.int x :: S) (rz_mk h ι, w) := rz_s1 fun _ => rfl
theorem g155_63 : rg Z d rx_m155 63 [l0, l1, some (.int x), l3, l4] S (rz_mk h ι, w) = rg Z d rx_m155 64 [l0, l1, some (.int x), l3, l4] (.int x :: S) (rz_mk h ι, w) := rz_s1 fun _ => rfl
theorem g155_64 : rg Z d rx_m155 64 [l0, l1, l2, some (.int x), l4] S (rz_mk h ι, w) = rg Z d rx_m155 65 [l0, l1, l2, some (.int x), l4] (.int x :: S) (rz_mk h ι, w) := rz_s1 fun _ => rfl
theorem g155_65 (c : rz_oc h a 1) : rg Z d rx_m155 65 L (v5 :: v4 :: v3 :: v2 :: v1 :: .ref a :: []) (rz_mk h ι, w) = rz_k true (rz_f Z d 7 [.ref a, v1, v2, v3, v4, v5] (rz_mk h ι, w)) (fun v σ' => rg Z d rx_m155 68 L (v.toList ++ []) σ') := rz_cv (pc := 65) (n := 5) (mi := 7) (S := v5 :: v4 :: v3 :: v2 :: v1 :: .ref a :: []) (rest := []) rfl rfl (Nat.le_of_ble_eq_true rfl) (Nat.le_of_ble_eq_true rfl) c
theorem g155_68 : rg Z d rx_m155 68 [l0, l1, l2, l3, some (.int x)] S (rz_mk h ι, w) = rg Z d rx_m155 70 [l0, l1, l2, l3, some (.int x)] (.int x :: S) (rz_mk h ι, w) := rz_s1 fun _ => rfl
theorem g155_70 : rg Z d rx_m155 70 L (.int x :: S) (rz_mk h ι, w) = if x = 0 then rg Z d rx_m155 96 L S (rz_mk h ι, w) else if x = 1 then rg Z d rx_m155 104 L S (rz_mk h ι, w) else if x = 2 then rg Z d rx_m155 112 L S (rz_mk h ι, w) else rg Z d rx_m155 120 L S (rz_mk h ι, w) := by
  by_cases c0 : x = 0
  · rw [if_pos c0, c0]; exact rz_s1 fun _ => rfl
  rw [if_neg c0]
  by_cases c1 : x = 1
  · rw [if_pos c1, c1]; exact rz_s1 fun _ => rfl
  rw [if_neg c1]
  by_cases c2 : x = 2
  · rw [if_pos c2, c2]; exact rz_s1 fun _ => rfl
  rw [if_neg c2]
  refine rz_s1 fun c => ?_
  unfold rx_at1
  show ((if x.toInt < 0 ∨ 2 < x.toInt then rx_jmp _ _ _ _ else _) : rx_P).map _ = _
  rw [if_pos]
  · rfl
  · apply Decidable.byContradiction
    intro hc
    have hn : x.toInt = 0 ∨ x.toInt = 1 ∨ x.toInt = 2 := by omega
    rcases hn with hn | hn | hn
    · exact c0 (Int32.toInt_inj.mp (hn.trans (by decide)))
    · exact c1 (Int32.toInt_inj.mp (hn.trans (by decide)))
    · exact c2 (Int32.toInt_inj.mp (hn.trans (by decide)))
theorem g155_96 : rg Z d rx_m155 96 [some (.ref a), l1, l2, l3, l4] S (rz_mk h ι, w) = rg Z d rx_m155 97 [some (.ref a), l1, l2, l3, l4] (.ref a :: S) (rz_mk h ι, w) := rz_s1 fun _ => rfl
theorem g155_97 (c : rz_fR h a 11 7) : rg Z d rx_m155 97 L (.ref a :: S) (rz_mk h ι, w) = rg Z d rx_m155 100 L (rz_rv h a 7 :: S) (rz_mk h ι, w) := rz_gR rfl (by decide) c
theorem g155_100 (c : rz_fI h a 8 5) : rg Z d rx_m155 100 L (.ref a :: S) (rz_mk h ι, w) = rg Z d rx_m155 103 L (.int (ι a 5) :: S) (rz_mk h ι, w) := rz_gI rfl (by decide) c
theorem g155_103 : rg Z d rx_m155 103 L [.int x] (rz_mk h ι, w) = some (.inl (some (.int x)), (rz_mk h ι, w)) := rz_reti rfl rfl rfl
theorem g155_104 : rg Z d rx_m155 104 [some (.ref a), l1, l2, l3, l4] S (rz_mk h ι, w) = rg Z d rx_m155 105 [some (.ref a), l1, l2, l3, l4] (.ref a :: S) (rz_mk h ι, w) := rz_s1 fun _ => rfl
theorem g155_105 (c : rz_fR h a 11 7) : rg Z d rx_m155 105 L (.ref a :: S) (rz_mk h ι, w) = rg Z d rx_m155 108 L (rz_rv h a 7 :: S) (rz_mk h ι, w) := rz_gR rfl (by decide) c
theorem g155_108 (c : rz_fI h a 8 4) : rg Z d rx_m155 108 L (.ref a :: S) (rz_mk h ι, w) = rg Z d rx_m155 111 L (.int (ι a 4) :: S) (rz_mk h ι, w) := rz_gI rfl (by decide) c
theorem g155_111 : rg Z d rx_m155 111 L [.int x] (rz_mk h ι, w) = some (.inl (some (.int x)), (rz_mk h ι, w)) := rz_reti rfl rfl rfl
theorem g155_112 : rg Z d rx_m155 112 [some (.ref a), l1, l2, l3, l4] S (rz_mk h ι, w) = rg Z d rx_m155 113 [some (.ref a), l1, l2, l3, l4] (.ref a :: S) (rz_mk h ι, w) := rz_s1 fun _ => rfl
theorem g155_113 (c : rz_fR h a 11 7) : rg Z d rx_m155 113 L (.ref a :: S) (rz_mk h ι, w) = rg Z d rx_m155 116 L (rz_rv h a 7 :: S) (rz_mk h ι, w) := rz_gR rfl (by decide) c
theorem g155_116 (c : rz_fI h a 8 8) : rg Z d rx_m155 116 L (.ref a :: S) (rz_mk h ι, w) = rg Z d rx_m155 119 L (.int (ι a 8) :: S) (rz_mk h ι, w) := rz_gI rfl (by decide) c
theorem g155_119 : rg Z d rx_m155 119 L [.int x] (rz_mk h ι, w) = some (.inl (some (.int x)), (rz_mk h ι, w)) := rz_reti rfl rfl rfl
theorem g155_120 : rg Z d rx_m155 120 [some (.ref a), l1, l2, l3, l4] S (rz_mk h ι, w) = rg Z d rx_m155 121 [some (.ref a), l1, l2, l3, l4] (.ref a :: S) (rz_mk h ι, w) := rz_s1 fun _ => rfl
theorem g155_121 (c : rz_fR h a 11 7) : rg Z d rx_m155 121 L (.ref a :: S) (rz_mk h ι, w) = rg Z d rx_m155 124 L (rz_rv h a 7 :: S) (rz_mk h ι, w) := rz_gR rfl (by decide) c
theorem g155_124 (c : rz_fI h a 8 3) : rg Z d rx_m155 124 L (.ref a :: S) (rz_mk h ι, w) = rg Z d rx_m155 127 L (.int (ι a 3) :: S) (rz_mk h ι, w) := rz_gI rfl (by decide) c
theorem g155_127 : rg Z d rx_m155 127 L [.int x] (rz_mk h ι, w) = some (.inl (some (.int x)), (rz_mk h ι, w)) := rz_reti rfl rfl rfl
theorem e155 : rz_f Z (d + 1) 155 [.ref t0, .int s1, .int s2, .int s3, .int s4] σ = rg Z d rx_m155 0 [some (.ref t0), some (.int s1), some (.int s2), some (.int s3), some (.int s4)] [] σ := rz_f_eq rfl (Nat.le_of_ble_eq_true rfl)
theorem g156_0 : rg Z d rx_m156 0 [some (.ref a), l1, l2, l3, l4, l5, l6, l7, l8, l9, l10] S (rz_mk h ι, w) = rg Z d rx_m156 1 [some (.ref a), l1, l2, l3, l4, l5, l6, l7, l8, l9, l10] (.ref a :: S) (rz_mk h ι, w) := rz_s1 fun _ => rfl
theorem g156_1 : rg Z d rx_m156 1 [l0, l1, some (.int x), l3, l4, l5, l6, l7, l8, l9, l10] S (rz_mk h ι, w) = rg Z d rx_m156 2 [l0, l1, some (.int x), l3, l4, l5, l6, l7, l8, l9, l10] (.int x :: S) (rz_mk h ι, w) := rz_s1 fun _ => rfl
theorem g156_2 : rg Z d rx_m156 2 L S (rz_mk h ι, w) = rg Z d rx_m156 3 L (.int 1 :: S) (rz_mk h ι, w) := rz_s1 fun _ => rfl
theorem g156_3 : rg Z d rx_m156 3 L S (rz_mk h ι, w) = rg Z d rx_m156 5 L (.int 20 :: S) (rz_mk h ι, w) := rz_s1 fun _ => rfl
theorem g156_5 : rg Z d rx_m156 5 L (v3 :: v2 :: v1 :: [.ref t0]) (rz_mk h ι, w) = rz_k true (rz_f Z d 161 [v1, v2, v3] (rz_mk h ι, w)) (fun v σ' => rg Z d rx_m156 8 L (v.toList ++ [.ref t0]) σ') := rz_cs (pc := 5) (n := 3) (mi := 161) (S := v3 :: v2 :: v1 :: [.ref t0]) (rest := [.ref t0]) rfl rfl (Nat.le_of_ble_eq_true rfl) (Nat.le_of_ble_eq_true rfl)
theorem g156_8 : rg Z d rx_m156 8 L (.int x :: S) (rz_mk h ι, w) = if x = 0 then rg Z d rx_m156 46 L S (rz_mk h ι, w) else rg Z d rx_m156 11 L S (rz_mk h ι, w) := rz_if1 (pc := 8) (t := 46) (off := 38) (cc := .eq) (by decide) rfl
theorem g156_11 : rg Z d rx_m156 11 [l0, l1, l2, some (.int x), l4, l5, l6, l7, l8, l9, l10] S (rz_mk h ι, w) = rg Z d rx_m156 12 [l0, l1, l2, some (.int x), l4, l5, l6, l7, l8, l9, l10] (.int x :: S) (rz_mk h ι, w) := rz_s1 fun _ => rfl
theorem g156_12 : rg Z d rx_m156 12 L S (rz_mk h ι, w) = rg Z d rx_m156 13 L (.int 1 :: S) (rz_mk h ι, w) := rz_s1 fun _ => rfl
theorem g156_13 : rg Z d rx_m156 13 L S (rz_mk h ι, w) = rg Z d rx_m156 15 L (.int 96 :: S) (rz_mk h ι, w) := rz_s1 fun _ => rfl
theorem g156_15 : rg Z d rx_m156 15 L (v3 :: v2 :: v1 :: [.ref t0]) (rz_mk h ι, w) = rz_k true (rz_f Z d 161 [v1, v2, v3] (rz_mk h ι, w)) (fun v σ' => rg Z d rx_m156 18 L (v.toList ++ [.ref t0]) σ') := rz_cs (pc := 15) (n := 3) (mi := 161) (S := v3 :: v2 :: v1 :: [.ref t0]) (rest := [.ref t0]) rfl rfl (Nat.le_of_ble_eq_true rfl) (Nat.le_of_ble_eq_true rfl)
theorem g156_18 : rg Z d rx_m156 18 L (.int x :: S) (rz_mk h ι, w) = if x = 0 then rg Z d rx_m156 46 L S (rz_mk h ι, w) else rg Z d rx_m156 21 L S (rz_mk h ι, w) := rz_if1 (pc := 18) (t := 46) (off := 28) (cc := .eq) (by decide) rfl
theorem g156_21 : rg Z d rx_m156 21 [l0, l1, l2, l3, some (.int x), l5, l6, l7, l8, l9, l10] S (rz_mk h ι, w) = rg Z d rx_m156 23 [l0, l1, l2, l3, some (.int x), l5, l6, l7, l8, l9, l10] (.int x :: S) (rz_mk h ι, w) := rz_s1 fun _ => rfl
theorem g156_23 : rg Z d rx_m156 23 L S (rz_mk h ι, w) = rg Z d rx_m156 24 L (.int 0 :: S) (rz_mk h ι, w) := rz_s1 fun _ => rfl
theorem g156_24 : rg Z d rx_m156 24 L S (rz_mk h ι, w) = rg Z d rx_m156 26 L (.int 16 :: S) (rz_mk h ι, w) := rz_s1 fun _ => rfl
theorem g156_26 : rg Z d rx_m156 26 L (v3 :: v2 :: v1 :: [.ref t0]) (rz_mk h ι, w) = rz_k true (rz_f Z d 161 [v1, v2, v3] (rz_mk h ι, w)) (fun v σ' => rg Z d rx_m156 29 L (v.toList ++ [.ref t0]) σ') := rz_cs (pc := 26) (n := 3) (mi := 161) (S := v3 :: v2 :: v1 :: [.ref t0]) (rest := [.ref t0]) rfl rfl (Nat.le_of_ble_eq_true rfl) (Nat.le_of_ble_eq_true rfl)
theorem g156_29 : rg Z d rx_m156 29 L (.int x :: S) (rz_mk h ι, w) = if x = 0 then rg Z d rx_m156 46 L S (rz_mk h ι, w) else rg Z d rx_m156 32 L S (rz_mk h ι, w) := rz_if1 (pc := 29) (t := 46) (off := 17) (cc := .eq) (by decide) rfl
theorem g156_32 : rg Z d rx_m156 32 [l0, l1, l2, l3, l4, some (.int x), l6, l7, l8, l9, l10] S (rz_mk h ι, w) = rg Z d rx_m156 34 [l0, l1, l2, l3, l4, some (.int x), l6, l7, l8, l9, l10] (.int x :: S) (rz_mk h ι, w) := rz_s1 fun _ => rfl
theorem g156_34 : rg Z d rx_m156 34 L S (rz_mk h ι, w) = rg Z d rx_m156 35 L (.int 0 :: S) (rz_mk h ι, w) := rz_s1 fun _ => rfl
theorem g156_35 : rg Z d rx_m156 35 L S (rz_mk h ι, w) = rg Z d rx_m156 36 L (.int 2 :: S) (rz_mk h ι, w) := rz_s1 fun _ => rfl
theorem g156_36 : rg Z d rx_m156 36 L (v3 :: v2 :: v1 :: [.ref t0]) (rz_mk h ι, w) = rz_k true (rz_f Z d 161 [v1, v2, v3] (rz_mk h ι, w)) (fun v σ' => rg Z d rx_m156 39 L (v.toList ++ [.ref t0]) σ') := rz_cs (pc := 36) (n := 3) (mi := 161) (S := v3 :: v2 :: v1 :: [.ref t0]) (rest := [.ref t0]) rfl rfl (Nat.le_of_ble_eq_true rfl) (Nat.le_of_ble_eq_true rfl)
theorem g156_39 : rg Z d rx_m156 39 L (.int x :: S) (rz_mk h ι, w) = if x = 0 then rg Z d rx_m156 46 L S (rz_mk h ι, w) else rg Z d rx_m156 42 L S (rz_mk h ι, w) := rz_if1 (pc := 39) (t := 46) (off := 7) (cc := .eq) (by decide) rfl
theorem g156_42 : rg Z d rx_m156 42 L S (rz_mk h ι, w) = rg Z d rx_m156 43 L (.int 1 :: S) (rz_mk h ι, w) := rz_s1 fun _ => rfl
theorem g156_43 : rg Z d rx_m156 43 L S (rz_mk h ι, w) = rg Z d rx_m156 47 L S (rz_mk h ι, w) := rz_s1 fun _ => rfl
theorem g156_46 : rg Z d rx_m156 46 L S (rz_mk h ι, w) = rg Z d rx_m156 47 L (.int 0 :: S) (rz_mk h ι, w) := rz_s1 fun _ => rfl
theorem g156_47 (c : rz_oc h a 11) : rg Z d rx_m156 47 L (v1 :: .ref a :: []) (rz_mk h ι, w) = rz_k true (rz_f Z d 162 [.ref a, v1] (rz_mk h ι, w)) (fun v σ' => rg Z d rx_m156 50 L (v.toList ++ []) σ') := rz_cv (pc := 47) (n := 1) (mi := 162) (S := v1 :: .ref a :: []) (rest := []) rfl rfl (Nat.le_of_ble_eq_true rfl) (Nat.le_of_ble_eq_true rfl) c
theorem g156_50 : rg Z d rx_m156 50 [some (.ref a), l1, l2, l3, l4, l5, l6, l7, l8, l9, l10] S (rz_mk h ι, w) = rg Z d rx_m156 51 [some (.ref a), l1, l2, l3, l4, l5, l6, l7, l8, l9, l10] (.ref a :: S) (rz_mk h ι, w) := rz_s1 fun _ => rfl
theorem g156_51 : rg Z d rx_m156 51 [some (.ref a), l1, l2, l3, l4, l5, l6, l7, l8, l9, l10] S (rz_mk h ι, w) = rg Z d rx_m156 52 [some (.ref a), l1, l2, l3, l4, l5, l6, l7, l8, l9, l10] (.ref a :: S) (rz_mk h ι, w) := rz_s1 fun _ => rfl
theorem g156_52 (c : rz_fR h a 11 11) : rg Z d rx_m156 52 L (.ref a :: S) (rz_mk h ι, w) = rg Z d rx_m156 55 L (rz_rv h a 11 :: S) (rz_mk h ι, w) := rz_gR rfl (by decide) c
theorem g156_55 : rg Z d rx_m156 55 [l0, l1, l2, l3, l4, l5, some (.int x), l7, l8, l9, l10] S (rz_mk h ι, w) = rg Z d rx_m156 57 [l0, l1, l2, l3, l4, l5, some (.int x), l7, l8, l9, l10] (.int x :: S) (rz_mk h ι, w) := rz_s1 fun _ => rfl
theorem g156_57 (c : rz_oc h a 8) : rg Z d rx_m156 57 L (v1 :: .ref a :: [.ref t0]) (rz_mk h ι, w) = rz_k true (rz_f Z d 67 [.ref a, v1] (rz_mk h ι, w)) (fun v σ' => rg Z d rx_m156 60 L (v.toList ++ [.ref t0]) σ') := rz_cv (pc := 57) (n := 1) (mi := 67) (S := v1 :: .ref a :: [.ref t0]) (rest := [.ref t0]) rfl rfl (Nat.le_of_ble_eq_true rfl) (Nat.le_of_ble_eq_true rfl) c
theorem g156_60 (c : rz_oc h a 11) : rg Z d rx_m156 60 L (v1 :: .ref a :: []) (rz_mk h ι, w) = rz_k true (rz_f Z d 162 [.ref a, v1] (rz_mk h ι, w)) (fun v σ' => rg Z d rx_m156 63 L (v.toList ++ []) σ') := rz_cv (pc := 60) (n := 1) (mi := 162) (S := v1 :: .ref a :: []) (rest := []) rfl rfl (Nat.le_of_ble_eq_true rfl) (Nat.le_of_ble_eq_true rfl) c
theorem g156_63 : rg Z d rx_m156 63 L S (rz_mk h ι, w) = rg Z d rx_m156 64 L (.int (-1) :: S) (rz_mk h ι, w) := rz_s1 fun _ => rfl
theorem g156_64 : rg Z d rx_m156 64 [l0, l1, l2, l3, l4, l5, some (.int z), l7, l8, l9, l10] (.int x :: S) (rz_mk h ι, w) = rg Z d rx_m156 66 [l0, l1, l2, l3, l4, l5, some (.int z), some (.int x), l8, l9, l10] S (rz_mk h ι, w) := rz_s1 fun _ => rfl
theorem g156_66 : rg Z d rx_m156 66 L S (rz_mk h ι, w) = rg Z d rx_m156 67 L (.int 0 :: S) (rz_mk h ι, w) := rz_s1 fun _ => rfl
theorem g156_67 : rg Z d rx_m156 67 [l0, l1, l2, l3, l4, l5, l6, some (.int z), l8, l9, l10] (.int x :: S) (rz_mk h ι, w) = rg Z d rx_m156 69 [l0, l1, l2, l3, l4, l5, l6, some (.int z), some (.int x), l9, l10] S (rz_mk h ι, w) := rz_s1 fun _ => rfl
theorem g156_69 : rg Z d rx_m156 69 L S (rz_mk h ι, w) = rg Z d rx_m156 70 L (.int 0 :: S) (rz_mk h ι, w) := rz_s1 fun _ => rfl
theorem g156_70 : rg Z d rx_m156 70 [l0, l1, l2, l3, l4, l5, l6, l7, some (.int z), l9, l10] (.int x :: S) (rz_mk h ι, w) = rg Z d rx_m156 72 [l0, l1, l2, l3, l4, l5, l6, l7, some (.int z), some (.int x), l10] S (rz_mk h ι, w) := rz_s1 fun _ => rfl
theorem g156_72 : rg Z d rx_m156 72 L S (rz_mk h ι, w) = rg Z d rx_m156 73 L (.int 0 :: S) (rz_mk h ι, w) := rz_s1 fun _ => rfl
theorem g156_73 : rg Z d rx_m156 73 [l0, l1, l2, l3, l4, l5, l6, l7, l8, some (.int z), l10] (.int x :: S) (rz_mk h ι, w) = rg Z d rx_m156 75 [l0, l1, l2, l3, l4, l5, l6, l7, l8, some (.int z), some (.int x)] S (rz_mk h ι, w) := rz_s1 fun _ => rfl
theorem g156_75 : rg Z d rx_m156 75 [l0, l1, l2, l3, l4, l5, l6, l7, l8, l9, some (.int x)] S (rz_mk h ι, w) = rg Z d rx_m156 77 [l0, l1, l2, l3, l4, l5, l6, l7, l8, l9, some (.int x)] (.int x :: S) (rz_mk h ι, w) := rz_s1 fun _ => rfl
theorem g156_77 : rg Z d rx_m156 77 [l0, l1, some (.int x), l3, l4, l5, l6, l7, l8, l9, l10] S (rz_mk h ι, w) = rg Z d rx_m156 78 [l0, l1, some (.int x), l3, l4, l5, l6, l7, l8, l9, l10] (.int x :: S) (rz_mk h ι, w) := rz_s1 fun _ => rfl
theorem g156_78 : rg Z d rx_m156 78 L (.int y :: .int x :: S) (rz_mk h ι, w) = if x < y then rg Z d rx_m156 81 L S (rz_mk h ι, w) else rg Z d rx_m156 186 L S (rz_mk h ι, w) := rz_if2 (pc := 78) (t := 186) (off := 108) (cc := .ge) (by decide) rfl
theorem g156_81 : rg Z d rx_m156 81 [some (.ref a), l1, l2, l3, l4, l5, l6, l7, l8, l9, l10] S (rz_mk h ι, w) = rg Z d rx_m156 82 [some (.ref a), l1, l2, l3, l4, l5, l6, l7, l8, l9, l10] (.ref a :: S) (rz_mk h ι, w) := rz_s1 fun _ => rfl
theorem g156_82 (c : rz_fR h a 11 7) : rg Z d rx_m156 82 L (.ref a :: S) (rz_mk h ι, w) = rg Z d rx_m156 85 L (rz_rv h a 7 :: S) (rz_mk h ι, w) := rz_gR rfl (by decide) c
theorem g156_85 : rg Z d rx_m156 85 [some (.ref a), l1, l2, l3, l4, l5, l6, l7, l8, l9, l10] S (rz_mk h ι, w) = rg Z d rx_m156 86 [some (.ref a), l1, l2, l3, l4, l5, l6, l7, l8, l9, l10] (.ref a :: S) (rz_mk h ι, w) := rz_s1 fun _ => rfl
theorem g156_86 (c : rz_fR h a 11 11) : rg Z d rx_m156 86 L (.ref a :: S) (rz_mk h ι, w) = rg Z d rx_m156 89 L (rz_rv h a 11 :: S) (rz_mk h ι, w) := rz_gR rfl (by decide) c
theorem g156_89 (c : rz_oc h a 8) : rg Z d rx_m156 89 L (v1 :: .ref a :: []) (rz_mk h ι, w) = rz_k true (rz_f Z d 66 [.ref a, v1] (rz_mk h ι, w)) (fun v σ' => rg Z d rx_m156 92 L (v.toList ++ []) σ') := rz_cv (pc := 89) (n := 1) (mi := 66) (S := v1 :: .ref a :: []) (rest := []) rfl rfl (Nat.le_of_ble_eq_true rfl) (Nat.le_of_ble_eq_true rfl) c
theorem g156_92 : rg Z d rx_m156 92 [some (.ref a), l1, l2, l3, l4, l5, l6, l7, l8, l9, l10] S (rz_mk h ι, w) = rg Z d rx_m156 93 [some (.ref a), l1, l2, l3, l4, l5, l6, l7, l8, l9, l10] (.ref a :: S) (rz_mk h ι, w) := rz_s1 fun _ => rfl
theorem g156_93 (c : rz_fR h a 11 8) : rg Z d rx_m156 93 L (.ref a :: S) (rz_mk h ι, w) = rg Z d rx_m156 96 L (rz_rv h a 8 :: S) (rz_mk h ι, w) := rz_gR rfl (by decide) c
theorem g156_96 : rg Z d rx_m156 96 [some (.ref a), l1, l2, l3, l4, l5, l6, l7, l8, l9, l10] S (rz_mk h ι, w) = rg Z d rx_m156 97 [some (.ref a), l1, l2, l3, l4, l5, l6, l7, l8, l9, l10] (.ref a :: S) (rz_mk h ι, w) := rz_s1 fun _ => rfl
theorem g156_97 (c : rz_fR h a 11 7) : rg Z d rx_m156 97 L (.ref a :: S) (rz_mk h ι, w) = rg Z d rx_m156 100 L (rz_rv h a 7 :: S) (rz_mk h ι, w) := rz_gR rfl (by decide) c
theorem g156_100 : rg Z d rx_m156 100 [some (.ref a), l1, l2, l3, l4, l5, l6, l7, l8, l9, l10] S (rz_mk h ι, w) = rg Z d rx_m156 101 [some (.ref a), l1, l2, l3, l4, l5, l6, l7, l8, l9, l10] (.ref a :: S) (rz_mk h ι, w) := rz_s1 fun _ => rfl
theorem g156_101 (c : rz_fR h a 11 10) : rg Z d rx_m156 101 L (.ref a :: S) (rz_mk h ι, w) = rg Z d rx_m156 104 L (rz_rv h a 10 :: S) (rz_mk h ι, w) := rz_gR rfl (by decide) c
theorem g156_104 : rg Z d rx_m156 104 [l0, some (.int x), l2, l3, l4, l5, l6, l7, l8, l9, l10] S (rz_mk h ι, w) = rg Z d rx_m156 105 [l0, some (.int x), l2, l3, l4, l5, l6, l7, l8, l9, l10] (.int x :: S) (rz_mk h ι, w) := rz_s1 fun _ => rfl
theorem g156_105 : rg Z d rx_m156 105 [l0, l1, l2, l3, l4, l5, l6, l7, l8, l9, some (.int x)] S (rz_mk h ι, w) = rg Z d rx_m156 107 [l0, l1, l2, l3, l4, l5, l6, l7, l8, l9, some (.int x)] (.int x :: S) (rz_mk h ι, w) := rz_s1 fun _ => rfl
theorem g156_107 : rg Z d rx_m156 107 L (.int y :: .int x :: S) (rz_mk h ι, w) = rg Z d rx_m156 108 L (.int (x + y) :: S) (rz_mk h ι, w) := rz_s1 fun _ => rfl
theorem g156_108 : rg Z d rx_m156 108 [l0, l1, l2, some (.int x), l4, l5, l6, l7, l8, l9, l10] S (rz_mk h ι, w) = rg Z d rx_m156 109 [l0, l1, l2, some (.int x), l4, l5, l6, l7, l8, l9, l10] (.int x :: S) (rz_mk h ι, w) := rz_s1 fun _ => rfl
theorem g156_109 : rg Z d rx_m156 109 [l0, l1, l2, l3, some (.int x), l5, l6, l7, l8, l9, l10] S (rz_mk h ι, w) = rg Z d rx_m156 111 [l0, l1, l2, l3, some (.int x), l5, l6, l7, l8, l9, l10] (.int x :: S) (rz_mk h ι, w) := rz_s1 fun _ => rfl
theorem g156_111 (c : rz_oc h a 1) : rg Z d rx_m156 111 L (v5 :: v4 :: v3 :: v2 :: v1 :: .ref a :: []) (rz_mk h ι, w) = rz_k true (rz_f Z d 7 [.ref a, v1, v2, v3, v4, v5] (rz_mk h ι, w)) (fun v σ' => rg Z d rx_m156 114 L (v.toList ++ []) σ') := rz_cv (pc := 111) (n := 5) (mi := 7) (S := v5 :: v4 :: v3 :: v2 :: v1 :: .ref a :: []) (rest := []) rfl rfl (Nat.le_of_ble_eq_true rfl) (Nat.le_of_ble_eq_true rfl) c
theorem g156_114 : rg Z d rx_m156 114 [l0, l1, l2, l3, l4, l5, l6, some (.int x), l8, l9, l10] S (rz_mk h ι, w) = rg Z d rx_m156 116 [l0, l1, l2, l3, l4, l5, l6, some (.int x), l8, l9, l10] (.int x :: S) (rz_mk h ι, w) := rz_s1 fun _ => rfl
theorem g156_116 : rg Z d rx_m156 116 L S (rz_mk h ι, w) = rg Z d rx_m156 117 L (.int (-1) :: S) (rz_mk h ι, w) := rz_s1 fun _ => rfl
theorem g156_117 : rg Z d rx_m156 117 L (.int y :: .int x :: S) (rz_mk h ι, w) = if x = y then rg Z d rx_m156 120 L S (rz_mk h ι, w) else rg Z d rx_m156 130 L S (rz_mk h ι, w) := rz_if2 (pc := 117) (t := 130) (off := 13) (cc := .ne) (by decide) rfl
theorem g156_120 : rg Z d rx_m156 120 [some (.ref a), l1, l2, l3, l4, l5, l6, l7, l8, l9, l10] S (rz_mk h ι, w) = rg Z d rx_m156 121 [some (.ref a), l1, l2, l3, l4, l5, l6, l7, l8, l9, l10] (.ref a :: S) (rz_mk h ι, w) := rz_s1 fun _ => rfl
theorem g156_121 (c : rz_fR h a 11 7) : rg Z d rx_m156 121 L (.ref a :: S) (rz_mk h ι, w) = rg Z d rx_m156 124 L (rz_rv h a 7 :: S) (rz_mk h ι, w) := rz_gR rfl (by decide) c
theorem g156_124 (c : rz_fI h a 8 8) : rg Z d rx_m156 124 L (.ref a :: S) (rz_mk h ι, w) = rg Z d rx_m156 127 L (.int (ι a 8) :: S) (rz_mk h ι, w) := rz_gI rfl (by decide) c
theorem g156_127 : rg Z d rx_m156 127 L S (rz_mk h ι, w) = rg Z d rx_m156 142 L S (rz_mk h ι, w) := rz_s1 fun _ => rfl
theorem g156_130 : rg Z d rx_m156 130 [l0, l1, l2, l3, l4, l5, l6, some (.int x), l8, l9, l10] S (rz_mk h ι, w) = rg Z d rx_m156 132 [l0, l1, l2, l3, l4, l5, l6, some (.int x), l8, l9, l10] (.int x :: S) (rz_mk h ι, w) := rz_s1 fun _ => rfl
theorem g156_132 : rg Z d rx_m156 132 [some (.ref a), l1, l2, l3, l4, l5, l6, l7, l8, l9, l10] S (rz_mk h ι, w) = rg Z d rx_m156 133 [some (.ref a), l1, l2, l3, l4, l5, l6, l7, l8, l9, l10] (.ref a :: S) (rz_mk h ι, w) := rz_s1 fun _ => rfl
theorem g156_133 (c : rz_fR h a 11 7) : rg Z d rx_m156 133 L (.ref a :: S) (rz_mk h ι, w) = rg Z d rx_m156 136 L (rz_rv h a 7 :: S) (rz_mk h ι, w) := rz_gR rfl (by decide) c
theorem g156_136 (c : rz_fI h a 8 8) : rg Z d rx_m156 136 L (.ref a :: S) (rz_mk h ι, w) = rg Z d rx_m156 139 L (.int (ι a 8) :: S) (rz_mk h ι, w) := rz_gI rfl (by decide) c
theorem g156_139 : rg Z d rx_m156 139 L (.int y :: .int x :: []) (rz_mk h ι, w) = rg Z d rx_m156 142 L (.int (if y < x then y else x) :: []) (rz_mk h ι, w) := rz_min rfl (Nat.le_of_ble_eq_true rfl)
theorem g156_142 : rg Z d rx_m156 142 [l0, l1, l2, l3, l4, l5, some (.int z), l7, l8, l9, l10] (.int x :: S) (rz_mk h ι, w) = rg Z d rx_m156 144 [l0, l1, l2, l3, l4, l5, some (.int z), some (.int x), l8, l9, l10] S (rz_mk h ι, w) := rz_s1 fun _ => rfl
theorem g156_144 : rg Z d rx_m156 144 [l0, l1, l2, l3, l4, l5, l6, l7, some (.int x), l9, l10] S (rz_mk h ι, w) = rg Z d rx_m156 146 [l0, l1, l2, l3, l4, l5, l6, l7, some (.int x), l9, l10] (.int x :: S) (rz_mk h ι, w) := rz_s1 fun _ => rfl
theorem g156_146 : rg Z d rx_m156 146 [some (.ref a), l1, l2, l3, l4, l5, l6, l7, l8, l9, l10] S (rz_mk h ι, w) = rg Z d rx_m156 147 [some (.ref a), l1, l2, l3, l4, l5, l6, l7, l8, l9, l10] (.ref a :: S) (rz_mk h ι, w) := rz_s1 fun _ => rfl
theorem g156_147 (c : rz_fR h a 11 7) : rg Z d rx_m156 147 L (.ref a :: S) (rz_mk h ι, w) = rg Z d rx_m156 150 L (rz_rv h a 7 :: S) (rz_mk h ι, w) := rz_gR rfl (by decide) c
theorem g156_150 (c : rz_fI h a 8 8) : rg Z d rx_m156 150 L (.ref a :: S) (rz_mk h ι, w) = rg Z d rx_m156 153 L (.int (ι a 8) :: S) (rz_mk h ι, w) := rz_gI rfl (by decide) c
theorem g156_153 : rg Z d rx_m156 153 L (.int y :: .int x :: []) (rz_mk h ι, w) = rg Z d rx_m156 156 L (.int (if x < y then y else x) :: []) (rz_mk h ι, w) := rz_max rfl (Nat.le_of_ble_eq_true rfl)
theorem g156_156 : rg Z d rx_m156 156 [l0, l1, l2, l3, l4, l5, l6, some (.int z), l8, l9, l10] (.int x :: S) (rz_mk h ι, w) = rg Z d rx_m156 158 [l0, l1, l2, l3, l4, l5, l6, some (.int z), some (.int x), l9, l10] S (rz_mk h ι, w) := rz_s1 fun _ => rfl
theorem g156_158 : rg Z d rx_m156 158 [l0, l1, l2, l3, l4, l5, l6, l7, l8, some (.int x), l10] S (rz_mk h ι, w) = rg Z d rx_m156 160 [l0, l1, l2, l3, l4, l5, l6, l7, l8, some (.int x), l10] (.int x :: S) (rz_mk h ι, w) := rz_s1 fun _ => rfl
theorem g156_160 : rg Z d rx_m156 160 [some (.ref a), l1, l2, l3, l4, l5, l6, l7, l8, l9, l10] S (rz_mk h ι, w) = rg Z d rx_m156 161 [some (.ref a), l1, l2, l3, l4, l5, l6, l7, l8, l9, l10] (.ref a :: S) (rz_mk h ι, w) := rz_s1 fun _ => rfl
theorem g156_161 (c : rz_fR h a 11 7) : rg Z d rx_m156 161 L (.ref a :: S) (rz_mk h ι, w) = rg Z d rx_m156 164 L (rz_rv h a 7 :: S) (rz_mk h ι, w) := rz_gR rfl (by decide) c
theorem g156_164 : rg Z d rx_m156 164 [l0, l1, l2, l3, l4, l5, some (.int x), l7, l8, l9, l10] S (rz_mk h ι, w) = rg Z d rx_m156 166 [l0, l1, l2, l3, l4, l5, some (.int x), l7, l8, l9, l10] (.int x :: S) (rz_mk h ι, w) := rz_s1 fun _ => rfl
theorem g156_166 (c : rz_oc h a 8) : rg Z d rx_m156 166 L (v1 :: .ref a :: [.int s0]) (rz_mk h ι, w) = rz_k true (rz_f Z d 68 [.ref a, v1] (rz_mk h ι, w)) (fun v σ' => rg Z d rx_m156 169 L (v.toList ++ [.int s0]) σ') := rz_cv (pc := 166) (n := 1) (mi := 68) (S := v1 :: .ref a :: [.int s0]) (rest := [.int s0]) rfl rfl (Nat.le_of_ble_eq_true rfl) (Nat.le_of_ble_eq_true rfl) c
theorem g156_169 : rg Z d rx_m156 169 L (.int x :: S) (rz_mk h ι, w) = if x = 0 then rg Z d rx_m156 176 L S (rz_mk h ι, w) else rg Z d rx_m156 172 L S (rz_mk h ι, w) := rz_if1 (pc := 169) (t := 176) (off := 7) (cc := .eq) (by decide) rfl
theorem g156_172 : rg Z d rx_m156 172 L S (rz_mk h ι, w) = rg Z d rx_m156 173 L (.int 1 :: S) (rz_mk h ι, w) := rz_s1 fun _ => rfl
theorem g156_173 : rg Z d rx_m156 173 L S (rz_mk h ι, w) = rg Z d rx_m156 177 L S (rz_mk h ι, w) := rz_s1 fun _ => rfl
theorem g156_176 : rg Z d rx_m156 176 L S (rz_mk h ι, w) = rg Z d rx_m156 177 L (.int 0 :: S) (rz_mk h ι, w) := rz_s1 fun _ => rfl
theorem g156_177 : rg Z d rx_m156 177 L (.int y :: .int x :: S) (rz_mk h ι, w) = rg Z d rx_m156 178 L (.int (x + y) :: S) (rz_mk h ι, w) := rz_s1 fun _ => rfl
theorem g156_178 : rg Z d rx_m156 178 [l0, l1, l2, l3, l4, l5, l6, l7, some (.int z), l9, l10] (.int x :: S) (rz_mk h ι, w) = rg Z d rx_m156 180 [l0, l1, l2, l3, l4, l5, l6, l7, some (.int z), some (.int x), l10] S (rz_mk h ι, w) := rz_s1 fun _ => rfl
theorem g156_180 : rg Z d rx_m156 180 [l0, l1, l2, l3, l4, l5, l6, l7, l8, some (.int z), some (.int x)] S (rz_mk h ι, w) = rg Z d rx_m156 183 [l0, l1, l2, l3, l4, l5, l6, l7, l8, some (.int z), some (.int (x + 1))] S (rz_mk h ι, w) := rz_s1 fun _ => rfl
theorem g156_183 : rg Z d rx_m156 183 L S (rz_mk h ι, w) = rg Z d rx_m156 75 L S (rz_mk h ι, w) := rz_s1 fun _ => rfl
theorem g156_186 : rg Z d rx_m156 186 [l0, l1, l2, l3, l4, some (.int x), l6, l7, l8, l9, l10] S (rz_mk h ι, w) = rg Z d rx_m156 188 [l0, l1, l2, l3, l4, some (.int x), l6, l7, l8, l9, l10] (.int x :: S) (rz_mk h ι, w) := rz_s1 fun _ => rfl
theorem g156_188 : rg Z d rx_m156 188 L (.int x :: S) (rz_mk h ι, w) = if x = 0 then rg Z d rx_m156 191 L S (rz_mk h ι, w) else rg Z d rx_m156 194 L S (rz_mk h ι, w) := rz_if1 (pc := 188) (t := 194) (off := 6) (cc := .ne) (by decide) rfl
theorem g156_191 : rg Z d rx_m156 191 [l0, l1, l2, l3, l4, l5, l6, some (.int x), l8, l9, l10] S (rz_mk h ι, w) = rg Z d rx_m156 193 [l0, l1, l2, l3, l4, l5, l6, some (.int x), l8, l9, l10] (.int x :: S) (rz_mk h ι, w) := rz_s1 fun _ => rfl
theorem g156_193 : rg Z d rx_m156 193 L [.int x] (rz_mk h ι, w) = some (.inl (some (.int x)), (rz_mk h ι, w)) := rz_reti rfl rfl rfl
theorem g156_194 : rg Z d rx_m156 194 [l0, l1, l2, l3, l4, some (.int x), l6, l7, l8, l9, l10] S (rz_mk h ι, w) = rg Z d rx_m156 196 [l0, l1, l2, l3, l4, some (.int x), l6, l7, l8, l9, l10] (.int x :: S) (rz_mk h ι, w) := rz_s1 fun _ => rfl
theorem g156_196 : rg Z d rx_m156 196 L S (rz_mk h ι, w) = rg Z d rx_m156 197 L (.int 1 :: S) (rz_mk h ι, w) := rz_s1 fun _ => rfl
theorem g156_197 : rg Z d rx_m156 197 L (.int y :: .int x :: S) (rz_mk h ι, w) = if x = y then rg Z d rx_m156 200 L S (rz_mk h ι, w) else rg Z d rx_m156 205 L S (rz_mk h ι, w) := rz_if2 (pc := 197) (t := 205) (off := 8) (cc := .ne) (by decide) rfl
theorem g156_200 : rg Z d rx_m156 200 [l0, l1, l2, l3, l4, l5, l6, l7, some (.int x), l9, l10] S (rz_mk h ι, w) = rg Z d rx_m156 202 [l0, l1, l2, l3, l4, l5, l6, l7, some (.int x), l9, l10] (.int x :: S) (rz_mk h ι, w) := rz_s1 fun _ => rfl
theorem g156_202 : rg Z d rx_m156 202 L S (rz_mk h ι, w) = rg Z d rx_m156 207 L S (rz_mk h ι, w) := rz_s1 fun _ => rfl
theorem g156_205 : rg Z d rx_m156 205 [l0, l1, l2, l3, l4, l5, l6, l7, l8, some (.int x), l10] S (rz_mk h ι, w) = rg Z d rx_m156 207 [l0, l1, l2, l3, l4, l5, l6, l7, l8, some (.int x), l10] (.int x :: S) (rz_mk h ι, w) := rz_s1 fun _ => rfl
theorem g156_207 : rg Z d rx_m156 207 L [.int x] (rz_mk h ι, w) = some (.inl (some (.int x)), (rz_mk h ι, w)) := rz_reti rfl rfl rfl
theorem e156 : rz_f Z (d + 1) 156 [.ref t0, .int s1, .int s2, .int s3, .int s4, .int s5, .int s6] σ = rg Z d rx_m156 0 [some (.ref t0), some (.int s1), some (.int s2), some (.int s3), some (.int s4), some (.int s5), some (.int s6), none, none, none, none] [] σ := rz_f_eq rfl (Nat.le_of_ble_eq_true rfl)
theorem g157_0 : rg Z d rx_m157 0 [some (.ref a)] S (rz_mk h ι, w) = rg Z d rx_m157 1 [some (.ref a)] (.ref a :: S) (rz_mk h ι, w) := rz_s1 fun _ => rfl
theorem g157_1 (c : rz_fI h a 11 13) : rg Z d rx_m157 1 L (.ref a :: S) (rz_mk h ι, w) = rg Z d rx_m157 4 L (.int (ι a 13) :: S) (rz_mk h ι, w) := rz_gI rfl (by decide) c
theorem g157_4 : rg Z d rx_m157 4 L S (rz_mk h ι, w) = rg Z d rx_m157 5 L (.int 3 :: S) (rz_mk h ι, w) := rz_s1 fun _ => rfl
theorem g157_5 : rg Z d rx_m157 5 L (.int y :: .int x :: S) (rz_mk h ι, w) = if x < y then rg Z d rx_m157 10 L S (rz_mk h ι, w) else rg Z d rx_m157 8 L S (rz_mk h ι, w) := rz_if2 (pc := 5) (t := 10) (off := 5) (cc := .lt) (by decide) rfl
theorem g157_8 : rg Z d rx_m157 8 L S (rz_mk h ι, w) = rg Z d rx_m157 9 L (.int (-1) :: S) (rz_mk h ι, w) := rz_s1 fun _ => rfl
theorem g157_9 : rg Z d rx_m157 9 L [.int x] (rz_mk h ι, w) = some (.inl (some (.int x)), (rz_mk h ι, w)) := rz_reti rfl rfl rfl
theorem g157_10 : rg Z d rx_m157 10 [some (.ref a)] S (rz_mk h ι, w) = rg Z d rx_m157 11 [some (.ref a)] (.ref a :: S) (rz_mk h ι, w) := rz_s1 fun _ => rfl
theorem g157_11 (c : rz_fR h a 11 9) : rg Z d rx_m157 11 L (.ref a :: S) (rz_mk h ι, w) = rg Z d rx_m157 14 L (rz_rv h a 9 :: S) (rz_mk h ι, w) := rz_gR rfl (by decide) c
theorem g157_14 : rg Z d rx_m157 14 [some (.ref a)] S (rz_mk h ι, w) = rg Z d rx_m157 15 [some (.ref a)] (.ref a :: S) (rz_mk h ι, w) := rz_s1 fun _ => rfl
theorem g157_15 (c : rz_fI h a 11 13) : rg Z d rx_m157 15 L (.ref a :: S) (rz_mk h ι, w) = rg Z d rx_m157 18 L (.int (ι a 13) :: S) (rz_mk h ι, w) := rz_gI rfl (by decide) c
theorem g157_18 : rg Z d rx_m157 18 L S (rz_mk h ι, w) = rg Z d rx_m157 21 L (.ref w.1 :: S) (rz_mk (rx_up h w.1 (.inr (7, rx_df 7))) (rz_z ι w.1), w.1 + 1, w.2 + 3) := rz_nw rfl rfl
theorem g157_21 : rg Z d rx_m157 21 L (.ref a :: S) (rz_mk h ι, w) = rg Z d rx_m157 22 L (.ref a :: .ref a :: S) (rz_mk h ι, w) := rz_s1 fun _ => rfl
theorem g157_22 : rg Z d rx_m157 22 [some (.ref a)] S (rz_mk h ι, w) = rg Z d rx_m157 23 [some (.ref a)] (.ref a :: S) (rz_mk h ι, w) := rz_s1 fun _ => rfl
theorem g157_23 (c : rz_fR h a 11 11) : rg Z d rx_m157 23 L (.ref a :: S) (rz_mk h ι, w) = rg Z d rx_m157 26 L (rz_rv h a 11 :: S) (rz_mk h ι, w) := rz_gR rfl (by decide) c
theorem g157_26 : rg Z d rx_m157 26 [some (.ref a)] S (rz_mk h ι, w) = rg Z d rx_m157 27 [some (.ref a)] (.ref a :: S) (rz_mk h ι, w) := rz_s1 fun _ => rfl
theorem g157_27 (c : rz_fR h a 11 12) : rg Z d rx_m157 27 L (.ref a :: S) (rz_mk h ι, w) = rg Z d rx_m157 30 L (rz_rv h a 12 :: S) (rz_mk h ι, w) := rz_gR rfl (by decide) c
theorem g157_30 : rg Z d rx_m157 30 L (v2 :: v1 :: .ref a :: [.ref t0, .int s1, .ref t2]) (rz_mk h ι, w) = rz_k false (rz_f Z d 64 [.ref a, v1, v2] (rz_mk h ι, w)) (fun v σ' => rg Z d rx_m157 33 L (v.toList ++ [.ref t0, .int s1, .ref t2]) σ') := rz_ci (pc := 30) (n := 2) (mi := 64) (S := v2 :: v1 :: .ref a :: [.ref t0, .int s1, .ref t2]) (rest := [.ref t0, .int s1, .ref t2]) (by decide) rfl rfl (Nat.le_of_ble_eq_true rfl) (Nat.le_of_ble_eq_true rfl)
theorem g157_33 (c : rz_ar h a 2) (hb : rz_oc h b 7) (hi : rz_ix x (rz_ln h a)) (hz : Z.2.1 ≤ a) : rg Z d rx_m157 33 L (.ref b :: .int x :: .ref a :: S) (rz_mk h ι, w) = rg Z d rx_m157 34 L S (rz_mk (rz_he h a x.toNatClampNeg (.ref b)) ι, w) := rz_aast rfl c hb hi hz
theorem g157_33n (c : rz_ar h a 2) (hi : rz_ix x (rz_ln h a)) (hz : Z.2.1 ≤ a) : rg Z d rx_m157 33 L (.null :: .int x :: .ref a :: S) (rz_mk h ι, w) = rg Z d rx_m157 34 L S (rz_mk (rz_he h a x.toNatClampNeg .null) ι, w) := rz_aastN rfl c hi hz
theorem g157_34 : rg Z d rx_m157 34 [some (.ref a)] S (rz_mk h ι, w) = rg Z d rx_m157 35 [some (.ref a)] (.ref a :: S) (rz_mk h ι, w) := rz_s1 fun _ => rfl
theorem g157_35 : rg Z d rx_m157 35 L (.ref a :: S) (rz_mk h ι, w) = rg Z d rx_m157 36 L (.ref a :: .ref a :: S) (rz_mk h ι, w) := rz_s1 fun _ => rfl
theorem g157_36 (c : rz_fI h a 11 13) : rg Z d rx_m157 36 L (.ref a :: S) (rz_mk h ι, w) = rg Z d rx_m157 39 L (.int (ι a 13) :: S) (rz_mk h ι, w) := rz_gI rfl (by decide) c
theorem g157_39 : rg Z d rx_m157 39 L S (rz_mk h ι, w) = rg Z d rx_m157 40 L (.int 1 :: S) (rz_mk h ι, w) := rz_s1 fun _ => rfl
theorem g157_40 : rg Z d rx_m157 40 L (.int y :: .int x :: S) (rz_mk h ι, w) = rg Z d rx_m157 41 L (.int (x + y) :: S) (rz_mk h ι, w) := rz_s1 fun _ => rfl
theorem g157_41 (c : rz_fI h a 11 13) (hz : Z.2.1 ≤ a) : rg Z d rx_m157 41 L (.int x :: .ref a :: S) (rz_mk h ι, w) = rg Z d rx_m157 44 L S (rz_mk h (rz_up ι a 13 x), w) := rz_pI rfl c hz
theorem g157_44 : rg Z d rx_m157 44 [some (.ref a)] S (rz_mk h ι, w) = rg Z d rx_m157 45 [some (.ref a)] (.ref a :: S) (rz_mk h ι, w) := rz_s1 fun _ => rfl
theorem g157_45 (c : rz_fI h a 11 13) : rg Z d rx_m157 45 L (.ref a :: S) (rz_mk h ι, w) = rg Z d rx_m157 48 L (.int (ι a 13) :: S) (rz_mk h ι, w) := rz_gI rfl (by decide) c
theorem g157_48 : rg Z d rx_m157 48 L [.int x] (rz_mk h ι, w) = some (.inl (some (.int x)), (rz_mk h ι, w)) := rz_reti rfl rfl rfl
theorem e157 : rz_f Z (d + 1) 157 [.ref t0] σ = rg Z d rx_m157 0 [some (.ref t0)] [] σ := rz_f_eq rfl (Nat.le_of_ble_eq_true rfl)
theorem g158_0 : rg Z d rx_m158 0 [some (.ref a), l1] S (rz_mk h ι, w) = rg Z d rx_m158 1 [some (.ref a), l1] (.ref a :: S) (rz_mk h ι, w) := rz_s1 fun _ => rfl
theorem g158_0n : rg Z d rx_m158 0 [some .null, l1] S (rz_mk h ι, w) = rg Z d rx_m158 1 [some .null, l1] (.null :: S) (rz_mk h ι, w) := rz_s1 fun _ => rfl
theorem g158_1 (c : rz_fI h a 11 13) : rg Z d rx_m158 1 L (.ref a :: S) (rz_mk h ι, w) = rg Z d rx_m158 4 L (.int (ι a 13) :: S) (rz_mk h ι, w) := rz_gI rfl (by decide) c
theorem g158_4 : rg Z d rx_m158 4 L (.int x :: S) (rz_mk h ι, w) = if 0 < x then rg Z d rx_m158 7 L S (rz_mk h ι, w) else rg Z d rx_m158 21 L S (rz_mk h ι, w) := rz_if1 (pc := 4) (t := 21) (off := 17) (cc := .le) (by decide) rfl
theorem g158_7 : rg Z d rx_m158 7 [some (.ref a), l1] S (rz_mk h ι, w) = rg Z d rx_m158 8 [some (.ref a), l1] (.ref a :: S) (rz_mk h ι, w) := rz_s1 fun _ => rfl
theorem g158_7n : rg Z d rx_m158 7 [some .null, l1] S (rz_mk h ι, w) = rg Z d rx_m158 8 [some .null, l1] (.null :: S) (rz_mk h ι, w) := rz_s1 fun _ => rfl
theorem g158_8 (c : rz_fR h a 11 9) : rg Z d rx_m158 8 L (.ref a :: S) (rz_mk h ι, w) = rg Z d rx_m158 11 L (rz_rv h a 9 :: S) (rz_mk h ι, w) := rz_gR rfl (by decide) c
theorem g158_11 : rg Z d rx_m158 11 [some (.ref a), l1] S (rz_mk h ι, w) = rg Z d rx_m158 12 [some (.ref a), l1] (.ref a :: S) (rz_mk h ι, w) := rz_s1 fun _ => rfl
theorem g158_11n : rg Z d rx_m158 11 [some .null, l1] S (rz_mk h ι, w) = rg Z d rx_m158 12 [some .null, l1] (.null :: S) (rz_mk h ι, w) := rz_s1 fun _ => rfl
theorem g158_12 (c : rz_fI h a 11 13) : rg Z d rx_m158 12 L (.ref a :: S) (rz_mk h ι, w) = rg Z d rx_m158 15 L (.int (ι a 13) :: S) (rz_mk h ι, w) := rz_gI rfl (by decide) c
theorem g158_15 : rg Z d rx_m158 15 L S (rz_mk h ι, w) = rg Z d rx_m158 16 L (.int 1 :: S) (rz_mk h ι, w) := rz_s1 fun _ => rfl
theorem g158_16 : rg Z d rx_m158 16 L (.int y :: .int x :: S) (rz_mk h ι, w) = rg Z d rx_m158 17 L (.int (x - y) :: S) (rz_mk h ι, w) := rz_s1 fun _ => rfl
theorem g158_17 (c : rz_ar h a 2) (hi : rz_ix x (rz_ln h a)) : rg Z d rx_m158 17 L (.int x :: .ref a :: S) (rz_mk h ι, w) = rg Z d rx_m158 18 L (rz_el h a x.toNatClampNeg :: S) (rz_mk h ι, w) := rz_aald (by decide) rfl c hi
theorem g158_18 : rg Z d rx_m158 18 L S (rz_mk h ι, w) = rg Z d rx_m158 22 L S (rz_mk h ι, w) := rz_s1 fun _ => rfl
theorem g158_21 : rg Z d rx_m158 21 L S (rz_mk h ι, w) = rg Z d rx_m158 22 L (.null :: S) (rz_mk h ι, w) := rz_s1 fun _ => rfl
theorem g158_22 : rg Z d rx_m158 22 [some (.ref b), l1] (.ref a :: S) (rz_mk h ι, w) = rg Z d rx_m158 23 [some (.ref b), some (.ref a)] S (rz_mk h ι, w) := rz_s1 fun _ => rfl
theorem g158_22n : rg Z d rx_m158 22 [some (.ref b), l1] (.null :: S) (rz_mk h ι, w) = rg Z d rx_m158 23 [some (.ref b), some .null] S (rz_mk h ι, w) := rz_s1 fun _ => rfl
theorem g158_23 : rg Z d rx_m158 23 [l0, some (.ref a)] S (rz_mk h ι, w) = rg Z d rx_m158 24 [l0, some (.ref a)] (.ref a :: S) (rz_mk h ι, w) := rz_s1 fun _ => rfl
theorem g158_23n : rg Z d rx_m158 23 [l0, some .null] S (rz_mk h ι, w) = rg Z d rx_m158 24 [l0, some .null] (.null :: S) (rz_mk h ι, w) := rz_s1 fun _ => rfl
theorem g158_24n : rg Z d rx_m158 24 L (.null :: S) (rz_mk h ι, w) = rg Z d rx_m158 27 L S (rz_mk h ι, w) := rz_s1 fun _ => rfl
theorem g158_24 : rg Z d rx_m158 24 L (.ref a :: S) (rz_mk h ι, w) = rg Z d rx_m158 29 L S (rz_mk h ι, w) := rz_s1 fun _ => rfl
theorem g158_27 : rg Z d rx_m158 27 L S (rz_mk h ι, w) = rg Z d rx_m158 28 L (.int (-1) :: S) (rz_mk h ι, w) := rz_s1 fun _ => rfl
theorem g158_28 : rg Z d rx_m158 28 L [.int x] (rz_mk h ι, w) = some (.inl (some (.int x)), (rz_mk h ι, w)) := rz_reti rfl rfl rfl
theorem g158_29 : rg Z d rx_m158 29 [some (.ref a), l1] S (rz_mk h ι, w) = rg Z d rx_m158 30 [some (.ref a), l1] (.ref a :: S) (rz_mk h ι, w) := rz_s1 fun _ => rfl
theorem g158_29n : rg Z d rx_m158 29 [some .null, l1] S (rz_mk h ι, w) = rg Z d rx_m158 30 [some .null, l1] (.null :: S) (rz_mk h ι, w) := rz_s1 fun _ => rfl
theorem g158_30 : rg Z d rx_m158 30 L (.ref a :: S) (rz_mk h ι, w) = rg Z d rx_m158 31 L (.ref a :: .ref a :: S) (rz_mk h ι, w) := rz_s1 fun _ => rfl
theorem g158_31 (c : rz_fI h a 11 13) : rg Z d rx_m158 31 L (.ref a :: S) (rz_mk h ι, w) = rg Z d rx_m158 34 L (.int (ι a 13) :: S) (rz_mk h ι, w) := rz_gI rfl (by decide) c
theorem g158_34 : rg Z d rx_m158 34 L S (rz_mk h ι, w) = rg Z d rx_m158 35 L (.int 1 :: S) (rz_mk h ι, w) := rz_s1 fun _ => rfl
theorem g158_35 : rg Z d rx_m158 35 L (.int y :: .int x :: S) (rz_mk h ι, w) = rg Z d rx_m158 36 L (.int (x - y) :: S) (rz_mk h ι, w) := rz_s1 fun _ => rfl
theorem g158_36 (c : rz_fI h a 11 13) (hz : Z.2.1 ≤ a) : rg Z d rx_m158 36 L (.int x :: .ref a :: S) (rz_mk h ι, w) = rg Z d rx_m158 39 L S (rz_mk h (rz_up ι a 13 x), w) := rz_pI rfl c hz
theorem g158_39 : rg Z d rx_m158 39 [some (.ref a), l1] S (rz_mk h ι, w) = rg Z d rx_m158 40 [some (.ref a), l1] (.ref a :: S) (rz_mk h ι, w) := rz_s1 fun _ => rfl
theorem g158_39n : rg Z d rx_m158 39 [some .null, l1] S (rz_mk h ι, w) = rg Z d rx_m158 40 [some .null, l1] (.null :: S) (rz_mk h ι, w) := rz_s1 fun _ => rfl
theorem g158_40 (c : rz_fR h a 11 9) : rg Z d rx_m158 40 L (.ref a :: S) (rz_mk h ι, w) = rg Z d rx_m158 43 L (rz_rv h a 9 :: S) (rz_mk h ι, w) := rz_gR rfl (by decide) c
theorem g158_43 : rg Z d rx_m158 43 [some (.ref a), l1] S (rz_mk h ι, w) = rg Z d rx_m158 44 [some (.ref a), l1] (.ref a :: S) (rz_mk h ι, w) := rz_s1 fun _ => rfl
theorem g158_43n : rg Z d rx_m158 43 [some .null, l1] S (rz_mk h ι, w) = rg Z d rx_m158 44 [some .null, l1] (.null :: S) (rz_mk h ι, w) := rz_s1 fun _ => rfl
theorem g158_44 (c : rz_fI h a 11 13) : rg Z d rx_m158 44 L (.ref a :: S) (rz_mk h ι, w) = rg Z d rx_m158 47 L (.int (ι a 13) :: S) (rz_mk h ι, w) := rz_gI rfl (by decide) c
theorem g158_47 : rg Z d rx_m158 47 L S (rz_mk h ι, w) = rg Z d rx_m158 48 L (.null :: S) (rz_mk h ι, w) := rz_s1 fun _ => rfl
theorem g158_48 (c : rz_ar h a 2) (hb : rz_oc h b 7) (hi : rz_ix x (rz_ln h a)) (hz : Z.2.1 ≤ a) : rg Z d rx_m158 48 L (.ref b :: .int x :: .ref a :: S) (rz_mk h ι, w) = rg Z d rx_m158 49 L S (rz_mk (rz_he h a x.toNatClampNeg (.ref b)) ι, w) := rz_aast rfl c hb hi hz
theorem g158_48n (c : rz_ar h a 2) (hi : rz_ix x (rz_ln h a)) (hz : Z.2.1 ≤ a) : rg Z d rx_m158 48 L (.null :: .int x :: .ref a :: S) (rz_mk h ι, w) = rg Z d rx_m158 49 L S (rz_mk (rz_he h a x.toNatClampNeg .null) ι, w) := rz_aastN rfl c hi hz
theorem g158_49 : rg Z d rx_m158 49 [some (.ref a), l1] S (rz_mk h ι, w) = rg Z d rx_m158 50 [some (.ref a), l1] (.ref a :: S) (rz_mk h ι, w) := rz_s1 fun _ => rfl
theorem g158_49n : rg Z d rx_m158 49 [some .null, l1] S (rz_mk h ι, w) = rg Z d rx_m158 50 [some .null, l1] (.null :: S) (rz_mk h ι, w) := rz_s1 fun _ => rfl
theorem g158_50 : rg Z d rx_m158 50 [l0, some (.ref a)] S (rz_mk h ι, w) = rg Z d rx_m158 51 [l0, some (.ref a)] (.ref a :: S) (rz_mk h ι, w) := rz_s1 fun _ => rfl
theorem g158_50n : rg Z d rx_m158 50 [l0, some .null] S (rz_mk h ι, w) = rg Z d rx_m158 51 [l0, some .null] (.null :: S) (rz_mk h ι, w) := rz_s1 fun _ => rfl
theorem g158_51 (c : rz_fR h a 7 0) : rg Z d rx_m158 51 L (.ref a :: S) (rz_mk h ι, w) = rg Z d rx_m158 54 L (rz_rv h a 0 :: S) (rz_mk h ι, w) := rz_gR rfl (by decide) c
theorem g158_54 (c : rz_fR h a 11 11) (hv : rz_isr v = true) (hz : Z.2.1 ≤ a) : rg Z d rx_m158 54 L (v :: .ref a :: S) (rz_mk h ι, w) = rg Z d rx_m158 57 L S (rz_mk (rz_hs h a 11 v) ι, w) := rz_pR rfl c hv hz
theorem g158_57 : rg Z d rx_m158 57 [some (.ref a), l1] S (rz_mk h ι, w) = rg Z d rx_m158 58 [some (.ref a), l1] (.ref a :: S) (rz_mk h ι, w) := rz_s1 fun _ => rfl
theorem g158_57n : rg Z d rx_m158 57 [some .null, l1] S (rz_mk h ι, w) = rg Z d rx_m158 58 [some .null, l1] (.null :: S) (rz_mk h ι, w) := rz_s1 fun _ => rfl
theorem g158_58 : rg Z d rx_m158 58 [l0, some (.ref a)] S (rz_mk h ι, w) = rg Z d rx_m158 59 [l0, some (.ref a)] (.ref a :: S) (rz_mk h ι, w) := rz_s1 fun _ => rfl
theorem g158_58n : rg Z d rx_m158 58 [l0, some .null] S (rz_mk h ι, w) = rg Z d rx_m158 59 [l0, some .null] (.null :: S) (rz_mk h ι, w) := rz_s1 fun _ => rfl
theorem g158_59 (c : rz_fR h a 7 1) : rg Z d rx_m158 59 L (.ref a :: S) (rz_mk h ι, w) = rg Z d rx_m158 62 L (rz_rv h a 1 :: S) (rz_mk h ι, w) := rz_gR rfl (by decide) c
theorem g158_62 (c : rz_fR h a 11 12) (hv : rz_isr v = true) (hz : Z.2.1 ≤ a) : rg Z d rx_m158 62 L (v :: .ref a :: S) (rz_mk h ι, w) = rg Z d rx_m158 65 L S (rz_mk (rz_hs h a 12 v) ι, w) := rz_pR rfl c hv hz
theorem g158_65 : rg Z d rx_m158 65 [some (.ref a), l1] S (rz_mk h ι, w) = rg Z d rx_m158 66 [some (.ref a), l1] (.ref a :: S) (rz_mk h ι, w) := rz_s1 fun _ => rfl
theorem g158_65n : rg Z d rx_m158 65 [some .null, l1] S (rz_mk h ι, w) = rg Z d rx_m158 66 [some .null, l1] (.null :: S) (rz_mk h ι, w) := rz_s1 fun _ => rfl
theorem g158_66 : rg Z d rx_m158 66 L S (rz_mk h ι, w) = rg Z d rx_m158 67 L (.int 0 :: S) (rz_mk h ι, w) := rz_s1 fun _ => rfl
theorem g158_67 (c : rz_fI h a 11 15) (hz : Z.2.1 ≤ a) : rg Z d rx_m158 67 L (.int x :: .ref a :: S) (rz_mk h ι, w) = rg Z d rx_m158 70 L S (rz_mk h (rz_up ι a 15 x), w) := rz_pI rfl c hz
theorem g158_70 : rg Z d rx_m158 70 [some (.ref a), l1] S (rz_mk h ι, w) = rg Z d rx_m158 71 [some (.ref a), l1] (.ref a :: S) (rz_mk h ι, w) := rz_s1 fun _ => rfl
theorem g158_70n : rg Z d rx_m158 70 [some .null, l1] S (rz_mk h ι, w) = rg Z d rx_m158 71 [some .null, l1] (.null :: S) (rz_mk h ι, w) := rz_s1 fun _ => rfl
theorem g158_71 (c : rz_fI h a 11 13) : rg Z d rx_m158 71 L (.ref a :: S) (rz_mk h ι, w) = rg Z d rx_m158 74 L (.int (ι a 13) :: S) (rz_mk h ι, w) := rz_gI rfl (by decide) c
theorem g158_74 : rg Z d rx_m158 74 L [.int x] (rz_mk h ι, w) = some (.inl (some (.int x)), (rz_mk h ι, w)) := rz_reti rfl rfl rfl
theorem e158 : rz_f Z (d + 1) 158 [.ref t0] σ = rg Z d rx_m158 0 [some (.ref t0), none] [] σ := rz_f_eq rfl (Nat.le_of_ble_eq_true rfl)
theorem g159_0 : rg Z d rx_m159 0 [l0, some (.int x)] S (rz_mk h ι, w) = rg Z d rx_m159 1 [l0, some (.int x)] (.int x :: S) (rz_mk h ι, w) := rz_s1 fun _ => rfl
theorem g159_1 : rg Z d rx_m159 1 L (.int x :: S) (rz_mk h ι, w) = if x = 0 then rg Z d rx_m159 4 L S (rz_mk h ι, w) else rg Z d rx_m159 9 L S (rz_mk h ι, w) := rz_if1 (pc := 1) (t := 9) (off := 8) (cc := .ne) (by decide) rfl
theorem g159_4 : rg Z d rx_m159 4 [some (.ref a), l1] S (rz_mk h ι, w) = rg Z d rx_m159 5 [some (.ref a), l1] (.ref a :: S) (rz_mk h ι, w) := rz_s1 fun _ => rfl
theorem g159_5 (c : rz_fI h a 11 16) : rg Z d rx_m159 5 L (.ref a :: S) (rz_mk h ι, w) = rg Z d rx_m159 8 L (.int (ι a 16) :: S) (rz_mk h ι, w) := rz_gI rfl (by decide) c
theorem g159_8 : rg Z d rx_m159 8 L [.int x] (rz_mk h ι, w) = some (.inl (some (.int x)), (rz_mk h ι, w)) := rz_reti rfl rfl rfl
theorem g159_9 : rg Z d rx_m159 9 [l0, some (.int x)] S (rz_mk h ι, w) = rg Z d rx_m159 10 [l0, some (.int x)] (.int x :: S) (rz_mk h ι, w) := rz_s1 fun _ => rfl
theorem g159_10 : rg Z d rx_m159 10 L S (rz_mk h ι, w) = rg Z d rx_m159 11 L (.int 1 :: S) (rz_mk h ι, w) := rz_s1 fun _ => rfl
theorem g159_11 : rg Z d rx_m159 11 L (.int y :: .int x :: S) (rz_mk h ι, w) = if x = y then rg Z d rx_m159 14 L S (rz_mk h ι, w) else rg Z d rx_m159 21 L S (rz_mk h ι, w) := rz_if2 (pc := 11) (t := 21) (off := 10) (cc := .ne) (by decide) rfl
theorem g159_14 : rg Z d rx_m159 14 [some (.ref a), l1] S (rz_mk h ι, w) = rg Z d rx_m159 15 [some (.ref a), l1] (.ref a :: S) (rz_mk h ι, w) := rz_s1 fun _ => rfl
theorem g159_15 (c : rz_fI h a 11 17) : rg Z d rx_m159 15 L (.ref a :: S) (rz_mk h ι, w) = rg Z d rx_m159 18 L (.int (ι a 17) :: S) (rz_mk h ι, w) := rz_gI rfl (by decide) c
theorem g159_18 : rg Z d rx_m159 18 L S (rz_mk h ι, w) = rg Z d rx_m159 22 L S (rz_mk h ι, w) := rz_s1 fun _ => rfl
theorem g159_21 : rg Z d rx_m159 21 L S (rz_mk h ι, w) = rg Z d rx_m159 22 L (.int (-1) :: S) (rz_mk h ι, w) := rz_s1 fun _ => rfl
theorem g159_22 : rg Z d rx_m159 22 L [.int x] (rz_mk h ι, w) = some (.inl (some (.int x)), (rz_mk h ι, w)) := rz_reti rfl rfl rfl
theorem e159 : rz_f Z (d + 1) 159 [.ref t0, .int s1] σ = rg Z d rx_m159 0 [some (.ref t0), some (.int s1)] [] σ := rz_f_eq rfl (Nat.le_of_ble_eq_true rfl)
theorem g160_0 : rg Z d rx_m160 0 [l0, some (.int x)] S (rz_mk h ι, w) = rg Z d rx_m160 1 [l0, some (.int x)] (.int x :: S) (rz_mk h ι, w) := rz_s1 fun _ => rfl
theorem g160_1 : rg Z d rx_m160 1 L (.int x :: S) (rz_mk h ι, w) = if x = 0 then rg Z d rx_m160 28 L S (rz_mk h ι, w) else if x = 1 then rg Z d rx_m160 33 L S (rz_mk h ι, w) else if x = 2 then rg Z d rx_m160 41 L S (rz_mk h ι, w) else rg Z d rx_m160 46 L S (rz_mk h ι, w) := by
  by_cases c0 : x = 0
  · rw [if_pos c0, c0]; exact rz_s1 fun _ => rfl
  rw [if_neg c0]
  by_cases c1 : x = 1
  · rw [if_pos c1, c1]; exact rz_s1 fun _ => rfl
  rw [if_neg c1]
  by_cases c2 : x = 2
  · rw [if_pos c2, c2]; exact rz_s1 fun _ => rfl
  rw [if_neg c2]
  refine rz_s1 fun c => ?_
  unfold rx_at1
  show ((if x.toInt < 0 ∨ 2 < x.toInt then rx_jmp _ _ _ _ else _) : rx_P).map _ = _
  rw [if_pos]
  · rfl
  · apply Decidable.byContradiction
    intro hc
    have hn : x.toInt = 0 ∨ x.toInt = 1 ∨ x.toInt = 2 := by omega
    rcases hn with hn | hn | hn
    · exact c0 (Int32.toInt_inj.mp (hn.trans (by decide)))
    · exact c1 (Int32.toInt_inj.mp (hn.trans (by decide)))
    · exact c2 (Int32.toInt_inj.mp (hn.trans (by decide)))
theorem g160_28 : rg Z d rx_m160 28 [some (.ref a), l1] S (rz_mk h ι, w) = rg Z d rx_m160 29 [some (.ref a), l1] (.ref a :: S) (rz_mk h ι, w) := rz_s1 fun _ => rfl
theorem g160_29 (c : rz_fI h a 11 13) : rg Z d rx_m160 29 L (.ref a :: S) (rz_mk h ι, w) = rg Z d rx_m160 32 L (.int (ι a 13) :: S) (rz_mk h ι, w) := rz_gI rfl (by decide) c
theorem g160_32 : rg Z d rx_m160 32 L [.int x] (rz_mk h ι, w) = some (.inl (some (.int x)), (rz_mk h ι, w)) := rz_reti rfl rfl rfl
theorem g160_33 : rg Z d rx_m160 33 [some (.ref a), l1] S (rz_mk h ι, w) = rg Z d rx_m160 34 [some (.ref a), l1] (.ref a :: S) (rz_mk h ι, w) := rz_s1 fun _ => rfl
theorem g160_34 (c : rz_fR h a 11 0) : rg Z d rx_m160 34 L (.ref a :: S) (rz_mk h ι, w) = rg Z d rx_m160 37 L (rz_rv h a 0 :: S) (rz_mk h ι, w) := rz_gR rfl (by decide) c
theorem g160_37 (c : rz_fI h a 9 5) : rg Z d rx_m160 37 L (.ref a :: S) (rz_mk h ι, w) = rg Z d rx_m160 40 L (.int (ι a 5) :: S) (rz_mk h ι, w) := rz_gI rfl (by decide) c
theorem g160_40 : rg Z d rx_m160 40 L [.int x] (rz_mk h ι, w) = some (.inl (some (.int x)), (rz_mk h ι, w)) := rz_reti rfl rfl rfl
theorem g160_41 : rg Z d rx_m160 41 [some (.ref a), l1] S (rz_mk h ι, w) = rg Z d rx_m160 42 [some (.ref a), l1] (.ref a :: S) (rz_mk h ι, w) := rz_s1 fun _ => rfl
theorem g160_42 (c : rz_oc h a 11) : rg Z d rx_m160 42 L (.ref a :: []) (rz_mk h ι, w) = rz_k true (rz_f Z d 165 [.ref a] (rz_mk h ι, w)) (fun v σ' => rg Z d rx_m160 45 L (v.toList ++ []) σ') := rz_cv (pc := 42) (n := 0) (mi := 165) (S := .ref a :: []) (rest := []) rfl rfl (Nat.le_of_ble_eq_true rfl) (Nat.le_of_ble_eq_true rfl) c
theorem g160_45 : rg Z d rx_m160 45 L [.int x] (rz_mk h ι, w) = some (.inl (some (.int x)), (rz_mk h ι, w)) := rz_reti rfl rfl rfl
theorem g160_46 : rg Z d rx_m160 46 L S (rz_mk h ι, w) = rg Z d rx_m160 47 L (.int (-1) :: S) (rz_mk h ι, w) := rz_s1 fun _ => rfl
theorem g160_47 : rg Z d rx_m160 47 L [.int x] (rz_mk h ι, w) = some (.inl (some (.int x)), (rz_mk h ι, w)) := rz_reti rfl rfl rfl
theorem e160 : rz_f Z (d + 1) 160 [.ref t0, .int s1] σ = rg Z d rx_m160 0 [some (.ref t0), some (.int s1)] [] σ := rz_f_eq rfl (Nat.le_of_ble_eq_true rfl)
theorem g161_0 : rg Z d rx_m161 0 [some (.int x), l1, l2] S (rz_mk h ι, w) = rg Z d rx_m161 1 [some (.int x), l1, l2] (.int x :: S) (rz_mk h ι, w) := rz_s1 fun _ => rfl
theorem g161_1 : rg Z d rx_m161 1 [l0, some (.int x), l2] S (rz_mk h ι, w) = rg Z d rx_m161 2 [l0, some (.int x), l2] (.int x :: S) (rz_mk h ι, w) := rz_s1 fun _ => rfl
theorem g161_2 : rg Z d rx_m161 2 L (.int y :: .int x :: S) (rz_mk h ι, w) = if x < y then rg Z d rx_m161 14 L S (rz_mk h ι, w) else rg Z d rx_m161 5 L S (rz_mk h ι, w) := rz_if2 (pc := 2) (t := 14) (off := 12) (cc := .lt) (by decide) rfl
theorem g161_5 : rg Z d rx_m161 5 [some (.int x), l1, l2] S (rz_mk h ι, w) = rg Z d rx_m161 6 [some (.int x), l1, l2] (.int x :: S) (rz_mk h ι, w) := rz_s1 fun _ => rfl
theorem g161_6 : rg Z d rx_m161 6 [l0, l1, some (.int x)] S (rz_mk h ι, w) = rg Z d rx_m161 7 [l0, l1, some (.int x)] (.int x :: S) (rz_mk h ι, w) := rz_s1 fun _ => rfl
theorem g161_7 : rg Z d rx_m161 7 L (.int y :: .int x :: S) (rz_mk h ι, w) = if y < x then rg Z d rx_m161 14 L S (rz_mk h ι, w) else rg Z d rx_m161 10 L S (rz_mk h ι, w) := rz_if2 (pc := 7) (t := 14) (off := 7) (cc := .gt) (by decide) rfl
theorem g161_10 : rg Z d rx_m161 10 L S (rz_mk h ι, w) = rg Z d rx_m161 11 L (.int 1 :: S) (rz_mk h ι, w) := rz_s1 fun _ => rfl
theorem g161_11 : rg Z d rx_m161 11 L S (rz_mk h ι, w) = rg Z d rx_m161 15 L S (rz_mk h ι, w) := rz_s1 fun _ => rfl
theorem g161_14 : rg Z d rx_m161 14 L S (rz_mk h ι, w) = rg Z d rx_m161 15 L (.int 0 :: S) (rz_mk h ι, w) := rz_s1 fun _ => rfl
theorem g161_15 (c : narrow .boolean (.int x) = .int x) : rg Z d rx_m161 15 L [.int x] (rz_mk h ι, w) = some (.inl (some (.int x)), (rz_mk h ι, w)) := rz_reti rfl rfl c
theorem e161 : rz_f Z (d + 1) 161 [.int s0, .int s1, .int s2] σ = rg Z d rx_m161 0 [some (.int s0), some (.int s1), some (.int s2)] [] σ := rz_f_eq rfl (Nat.le_of_ble_eq_true rfl)
theorem g162_0 : rg Z d rx_m162 0 [l0, some (.int x)] S (rz_mk h ι, w) = rg Z d rx_m162 1 [l0, some (.int x)] (.int x :: S) (rz_mk h ι, w) := rz_s1 fun _ => rfl
theorem g162_1 : rg Z d rx_m162 1 L (.int x :: S) (rz_mk h ι, w) = if x = 0 then rg Z d rx_m162 4 L S (rz_mk h ι, w) else rg Z d rx_m162 22 L S (rz_mk h ι, w) := rz_if1 (pc := 1) (t := 22) (off := 21) (cc := .ne) (by decide) rfl
theorem g162_4 : rg Z d rx_m162 4 [some (.ref a), l1] S (rz_mk h ι, w) = rg Z d rx_m162 5 [some (.ref a), l1] (.ref a :: S) (rz_mk h ι, w) := rz_s1 fun _ => rfl
theorem g162_5 : rg Z d rx_m162 5 L (.ref a :: S) (rz_mk h ι, w) = rg Z d rx_m162 6 L (.ref a :: .ref a :: S) (rz_mk h ι, w) := rz_s1 fun _ => rfl
theorem g162_6 (c : rz_fI h a 11 17) : rg Z d rx_m162 6 L (.ref a :: S) (rz_mk h ι, w) = rg Z d rx_m162 9 L (.int (ι a 17) :: S) (rz_mk h ι, w) := rz_gI rfl (by decide) c
theorem g162_9 : rg Z d rx_m162 9 L S (rz_mk h ι, w) = rg Z d rx_m162 10 L (.int 1 :: S) (rz_mk h ι, w) := rz_s1 fun _ => rfl
theorem g162_10 : rg Z d rx_m162 10 L (.int y :: .int x :: S) (rz_mk h ι, w) = rg Z d rx_m162 11 L (.int (x + y) :: S) (rz_mk h ι, w) := rz_s1 fun _ => rfl
theorem g162_11 (c : rz_fI h a 11 17) (hz : Z.2.1 ≤ a) : rg Z d rx_m162 11 L (.int x :: .ref a :: S) (rz_mk h ι, w) = rg Z d rx_m162 14 L S (rz_mk h (rz_up ι a 17 x), w) := rz_pI rfl c hz
theorem g162_14 : rg Z d rx_m162 14 L [] (rz_mk h ι, w) = some (.inr (rx_xn 0), (rz_mk h ι, w)) := rz_nwx rfl
theorem g162_22 : rg Z d rx_m162 22 L [] (rz_mk h ι, w) = some (.inl none, (rz_mk h ι, w)) := rz_r1 fun _ => rfl
theorem e162 : rz_f Z (d + 1) 162 [.ref t0, .int s1] σ = rg Z d rx_m162 0 [some (.ref t0), some (.int s1)] [] σ := rz_f_eq rfl (Nat.le_of_ble_eq_true rfl)
theorem g163_0 : rg Z d rx_m163 0 [some (.ref a), l1, l2] S (rz_mk h ι, w) = rg Z d rx_m163 1 [some (.ref a), l1, l2] (.ref a :: S) (rz_mk h ι, w) := rz_s1 fun _ => rfl
theorem g163_1 : rg Z d rx_m163 1 [l0, some (.int x), l2] S (rz_mk h ι, w) = rg Z d rx_m163 2 [l0, some (.int x), l2] (.int x :: S) (rz_mk h ι, w) := rz_s1 fun _ => rfl
theorem g163_2 : rg Z d rx_m163 2 L S (rz_mk h ι, w) = rg Z d rx_m163 3 L (.int 0 :: S) (rz_mk h ι, w) := rz_s1 fun _ => rfl
theorem g163_3 : rg Z d rx_m163 3 [some (.ref a), l1, l2] S (rz_mk h ι, w) = rg Z d rx_m163 4 [some (.ref a), l1, l2] (.ref a :: S) (rz_mk h ι, w) := rz_s1 fun _ => rfl
theorem g163_4 (c : rz_fR h a 11 0) : rg Z d rx_m163 4 L (.ref a :: S) (rz_mk h ι, w) = rg Z d rx_m163 7 L (rz_rv h a 0 :: S) (rz_mk h ι, w) := rz_gR rfl (by decide) c
theorem g163_7 (c : rz_fI h a 9 5) : rg Z d rx_m163 7 L (.ref a :: S) (rz_mk h ι, w) = rg Z d rx_m163 10 L (.int (ι a 5) :: S) (rz_mk h ι, w) := rz_gI rfl (by decide) c
theorem g163_10 : rg Z d rx_m163 10 [l0, l1, some (.int x)] S (rz_mk h ι, w) = rg Z d rx_m163 11 [l0, l1, some (.int x)] (.int x :: S) (rz_mk h ι, w) := rz_s1 fun _ => rfl
theorem g163_11 : rg Z d rx_m163 11 L (.int y :: .int x :: [.int s0, .int s1, .ref t2]) (rz_mk h ι, w) = rg Z d rx_m163 14 L (.int (if y < x then y else x) :: [.int s0, .int s1, .ref t2]) (rz_mk h ι, w) := rz_min rfl (Nat.le_of_ble_eq_true rfl)
theorem g163_14 : rg Z d rx_m163 14 L (v3 :: v2 :: v1 :: [.ref t0]) (rz_mk h ι, w) = rz_k true (rz_f Z d 161 [v1, v2, v3] (rz_mk h ι, w)) (fun v σ' => rg Z d rx_m163 17 L (v.toList ++ [.ref t0]) σ') := rz_cs (pc := 14) (n := 3) (mi := 161) (S := v3 :: v2 :: v1 :: [.ref t0]) (rest := [.ref t0]) rfl rfl (Nat.le_of_ble_eq_true rfl) (Nat.le_of_ble_eq_true rfl)
theorem g163_17 (c : rz_oc h a 11) : rg Z d rx_m163 17 L (v1 :: .ref a :: []) (rz_mk h ι, w) = rz_k true (rz_f Z d 162 [.ref a, v1] (rz_mk h ι, w)) (fun v σ' => rg Z d rx_m163 20 L (v.toList ++ []) σ') := rz_cv (pc := 17) (n := 1) (mi := 162) (S := v1 :: .ref a :: []) (rest := []) rfl rfl (Nat.le_of_ble_eq_true rfl) (Nat.le_of_ble_eq_true rfl) c
theorem g163_20 : rg Z d rx_m163 20 L [] (rz_mk h ι, w) = some (.inl none, (rz_mk h ι, w)) := rz_r1 fun _ => rfl
theorem e163 : rz_f Z (d + 1) 163 [.ref t0, .int s1, .int s2] σ = rg Z d rx_m163 0 [some (.ref t0), some (.int s1), some (.int s2)] [] σ := rz_f_eq rfl (Nat.le_of_ble_eq_true rfl)
theorem g164_0 : rg Z d rx_m164 0 [some (.ref a), l1] S (rz_mk h ι, w) = rg Z d rx_m164 1 [some (.ref a), l1] (.ref a :: S) (rz_mk h ι, w) := rz_s1 fun _ => rfl
theorem g164_1 (c : rz_fR h a 11 11) : rg Z d rx_m164 1 L (.ref a :: S) (rz_mk h ι, w) = rg Z d rx_m164 4 L (rz_rv h a 11 :: S) (rz_mk h ι, w) := rz_gR rfl (by decide) c
theorem g164_4 : rg Z d rx_m164 4 [l0, some (.int x)] S (rz_mk h ι, w) = rg Z d rx_m164 5 [l0, some (.int x)] (.int x :: S) (rz_mk h ι, w) := rz_s1 fun _ => rfl
theorem g164_5 (c : rz_oc h a 8) : rg Z d rx_m164 5 L (v1 :: .ref a :: []) (rz_mk h ι, w) = rz_k true (rz_f Z d 67 [.ref a, v1] (rz_mk h ι, w)) (fun v σ' => rg Z d rx_m164 8 L (v.toList ++ []) σ') := rz_cv (pc := 5) (n := 1) (mi := 67) (S := v1 :: .ref a :: []) (rest := []) rfl rfl (Nat.le_of_ble_eq_true rfl) (Nat.le_of_ble_eq_true rfl) c
theorem g164_8 : rg Z d rx_m164 8 L (.int x :: S) (rz_mk h ι, w) = if x = 0 then rg Z d rx_m164 11 L S (rz_mk h ι, w) else rg Z d rx_m164 29 L S (rz_mk h ι, w) := rz_if1 (pc := 8) (t := 29) (off := 21) (cc := .ne) (by decide) rfl
theorem g164_11 : rg Z d rx_m164 11 [some (.ref a), l1] S (rz_mk h ι, w) = rg Z d rx_m164 12 [some (.ref a), l1] (.ref a :: S) (rz_mk h ι, w) := rz_s1 fun _ => rfl
theorem g164_12 : rg Z d rx_m164 12 L (.ref a :: S) (rz_mk h ι, w) = rg Z d rx_m164 13 L (.ref a :: .ref a :: S) (rz_mk h ι, w) := rz_s1 fun _ => rfl
theorem g164_13 (c : rz_fI h a 11 16) : rg Z d rx_m164 13 L (.ref a :: S) (rz_mk h ι, w) = rg Z d rx_m164 16 L (.int (ι a 16) :: S) (rz_mk h ι, w) := rz_gI rfl (by decide) c
theorem g164_16 : rg Z d rx_m164 16 L S (rz_mk h ι, w) = rg Z d rx_m164 17 L (.int 1 :: S) (rz_mk h ι, w) := rz_s1 fun _ => rfl
theorem g164_17 : rg Z d rx_m164 17 L (.int y :: .int x :: S) (rz_mk h ι, w) = rg Z d rx_m164 18 L (.int (x + y) :: S) (rz_mk h ι, w) := rz_s1 fun _ => rfl
theorem g164_18 (c : rz_fI h a 11 16) (hz : Z.2.1 ≤ a) : rg Z d rx_m164 18 L (.int x :: .ref a :: S) (rz_mk h ι, w) = rg Z d rx_m164 21 L S (rz_mk h (rz_up ι a 16 x), w) := rz_pI rfl c hz
theorem g164_21 : rg Z d rx_m164 21 L [] (rz_mk h ι, w) = some (.inr (rx_xn 1), (rz_mk h ι, w)) := rz_nwx rfl
theorem g164_29 : rg Z d rx_m164 29 L [] (rz_mk h ι, w) = some (.inl none, (rz_mk h ι, w)) := rz_r1 fun _ => rfl
theorem e164 : rz_f Z (d + 1) 164 [.ref t0, .int s1] σ = rg Z d rx_m164 0 [some (.ref t0), some (.int s1)] [] σ := rz_f_eq rfl (Nat.le_of_ble_eq_true rfl)
theorem g165_0 : rg Z d rx_m165 0 [some (.ref a)] S (rz_mk h ι, w) = rg Z d rx_m165 1 [some (.ref a)] (.ref a :: S) (rz_mk h ι, w) := rz_s1 fun _ => rfl
theorem g165_1 (c : rz_fR h a 11 12) : rg Z d rx_m165 1 L (.ref a :: S) (rz_mk h ι, w) = rg Z d rx_m165 4 L (rz_rv h a 12 :: S) (rz_mk h ι, w) := rz_gR rfl (by decide) c
theorem g165_4n : rg Z d rx_m165 4 L (.null :: S) (rz_mk h ι, w) = rg Z d rx_m165 7 L S (rz_mk h ι, w) := rz_s1 fun _ => rfl
theorem g165_4 : rg Z d rx_m165 4 L (.ref a :: S) (rz_mk h ι, w) = rg Z d rx_m165 11 L S (rz_mk h ι, w) := rz_s1 fun _ => rfl
theorem g165_7 : rg Z d rx_m165 7 L S (rz_mk h ι, w) = rg Z d rx_m165 8 L (.int 0 :: S) (rz_mk h ι, w) := rz_s1 fun _ => rfl
theorem g165_8 : rg Z d rx_m165 8 L S (rz_mk h ι, w) = rg Z d rx_m165 18 L S (rz_mk h ι, w) := rz_s1 fun _ => rfl
theorem g165_11 : rg Z d rx_m165 11 [some (.ref a)] S (rz_mk h ι, w) = rg Z d rx_m165 12 [some (.ref a)] (.ref a :: S) (rz_mk h ι, w) := rz_s1 fun _ => rfl
theorem g165_12 (c : rz_fR h a 11 12) : rg Z d rx_m165 12 L (.ref a :: S) (rz_mk h ι, w) = rg Z d rx_m165 15 L (rz_rv h a 12 :: S) (rz_mk h ι, w) := rz_gR rfl (by decide) c
theorem g165_15 (c : rz_fI h a 7 2) : rg Z d rx_m165 15 L (.ref a :: S) (rz_mk h ι, w) = rg Z d rx_m165 18 L (.int (ι a 2) :: S) (rz_mk h ι, w) := rz_gI rfl (by decide) c
theorem g165_18 : rg Z d rx_m165 18 L [.int x] (rz_mk h ι, w) = some (.inl (some (.int x)), (rz_mk h ι, w)) := rz_reti rfl rfl rfl
theorem e165 : rz_f Z (d + 1) 165 [.ref t0] σ = rg Z d rx_m165 0 [some (.ref t0)] [] σ := rz_f_eq rfl (Nat.le_of_ble_eq_true rfl)
theorem g166_0 : rg Z d rx_m166 0 L S (rz_mk h ι, w) = rg Z d rx_m166 1 L (.int 0 :: S) (rz_mk h ι, w) := rz_s1 fun _ => rfl
theorem g166_1 : rg Z d rx_m166 1 [some (.ref b), l1] (.int x :: S) (rz_mk h ι, w) = rg Z d rx_m166 2 [some (.ref b), some (.int x)] S (rz_mk h ι, w) := rz_s1 fun _ => rfl
theorem g166_2 : rg Z d rx_m166 2 [l0, some (.int x)] S (rz_mk h ι, w) = rg Z d rx_m166 3 [l0, some (.int x)] (.int x :: S) (rz_mk h ι, w) := rz_s1 fun _ => rfl
theorem g166_3 : rg Z d rx_m166 3 [some (.ref a), l1] S (rz_mk h ι, w) = rg Z d rx_m166 4 [some (.ref a), l1] (.ref a :: S) (rz_mk h ι, w) := rz_s1 fun _ => rfl
theorem g166_4 (c : rz_fR h a 11 9) : rg Z d rx_m166 4 L (.ref a :: S) (rz_mk h ι, w) = rg Z d rx_m166 7 L (rz_rv h a 9 :: S) (rz_mk h ι, w) := rz_gR rfl (by decide) c
theorem g166_7 (c : rz_ar h a 2) : rg Z d rx_m166 7 L (.ref a :: S) (rz_mk h ι, w) = rg Z d rx_m166 8 L (.int (Int32.ofNat (rz_ln h a)) :: S) (rz_mk h ι, w) := rz_alen (by decide) rfl c
theorem g166_8 : rg Z d rx_m166 8 L (.int y :: .int x :: S) (rz_mk h ι, w) = if x < y then rg Z d rx_m166 11 L S (rz_mk h ι, w) else rg Z d rx_m166 24 L S (rz_mk h ι, w) := rz_if2 (pc := 8) (t := 24) (off := 16) (cc := .ge) (by decide) rfl
theorem g166_11 : rg Z d rx_m166 11 [some (.ref a), l1] S (rz_mk h ι, w) = rg Z d rx_m166 12 [some (.ref a), l1] (.ref a :: S) (rz_mk h ι, w) := rz_s1 fun _ => rfl
theorem g166_12 (c : rz_fR h a 11 9) : rg Z d rx_m166 12 L (.ref a :: S) (rz_mk h ι, w) = rg Z d rx_m166 15 L (rz_rv h a 9 :: S) (rz_mk h ι, w) := rz_gR rfl (by decide) c
theorem g166_15 : rg Z d rx_m166 15 [l0, some (.int x)] S (rz_mk h ι, w) = rg Z d rx_m166 16 [l0, some (.int x)] (.int x :: S) (rz_mk h ι, w) := rz_s1 fun _ => rfl
theorem g166_16 : rg Z d rx_m166 16 L S (rz_mk h ι, w) = rg Z d rx_m166 17 L (.null :: S) (rz_mk h ι, w) := rz_s1 fun _ => rfl
theorem g166_17 (c : rz_ar h a 2) (hb : rz_oc h b 7) (hi : rz_ix x (rz_ln h a)) (hz : Z.2.1 ≤ a) : rg Z d rx_m166 17 L (.ref b :: .int x :: .ref a :: S) (rz_mk h ι, w) = rg Z d rx_m166 18 L S (rz_mk (rz_he h a x.toNatClampNeg (.ref b)) ι, w) := rz_aast rfl c hb hi hz
theorem g166_17n (c : rz_ar h a 2) (hi : rz_ix x (rz_ln h a)) (hz : Z.2.1 ≤ a) : rg Z d rx_m166 17 L (.null :: .int x :: .ref a :: S) (rz_mk h ι, w) = rg Z d rx_m166 18 L S (rz_mk (rz_he h a x.toNatClampNeg .null) ι, w) := rz_aastN rfl c hi hz
theorem g166_18 : rg Z d rx_m166 18 [some (.ref b), some (.int x)] S (rz_mk h ι, w) = rg Z d rx_m166 21 [some (.ref b), some (.int (x + 1))] S (rz_mk h ι, w) := rz_s1 fun _ => rfl
theorem g166_21 : rg Z d rx_m166 21 L S (rz_mk h ι, w) = rg Z d rx_m166 2 L S (rz_mk h ι, w) := rz_s1 fun _ => rfl
theorem g166_24 : rg Z d rx_m166 24 [some (.ref a), l1] S (rz_mk h ι, w) = rg Z d rx_m166 25 [some (.ref a), l1] (.ref a :: S) (rz_mk h ι, w) := rz_s1 fun _ => rfl
theorem g166_25 : rg Z d rx_m166 25 L S (rz_mk h ι, w) = rg Z d rx_m166 26 L (.int 0 :: S) (rz_mk h ι, w) := rz_s1 fun _ => rfl
theorem g166_26 (c : rz_fI h a 11 13) (hz : Z.2.1 ≤ a) : rg Z d rx_m166 26 L (.int x :: .ref a :: S) (rz_mk h ι, w) = rg Z d rx_m166 29 L S (rz_mk h (rz_up ι a 13 x), w) := rz_pI rfl c hz
theorem g166_29 : rg Z d rx_m166 29 L [] (rz_mk h ι, w) = some (.inl none, (rz_mk h ι, w)) := rz_r1 fun _ => rfl
theorem e166 : rz_f Z (d + 1) 166 [.ref t0] σ = rg Z d rx_m166 0 [some (.ref t0), none] [] σ := rz_f_eq rfl (Nat.le_of_ble_eq_true rfl)
theorem g167_0 : rg Z d rx_m167 0 [some (.ref a), l1, l2, l3, l4, l5] S (rz_mk h ι, w) = rg Z d rx_m167 1 [some (.ref a), l1, l2, l3, l4, l5] (.ref a :: S) (rz_mk h ι, w) := rz_s1 fun _ => rfl
theorem g167_1 (c : rz_fR h a 11 10) : rg Z d rx_m167 1 L (.ref a :: S) (rz_mk h ι, w) = rg Z d rx_m167 4 L (rz_rv h a 10 :: S) (rz_mk h ι, w) := rz_gR rfl (by decide) c
theorem g167_4 : rg Z d rx_m167 4 [some (.ref a), l1, l2, l3, l4, l5] S (rz_mk h ι, w) = rg Z d rx_m167 5 [some (.ref a), l1, l2, l3, l4, l5] (.ref a :: S) (rz_mk h ι, w) := rz_s1 fun _ => rfl
theorem g167_5 (c : rz_fR h a 11 11) : rg Z d rx_m167 5 L (.ref a :: S) (rz_mk h ι, w) = rg Z d rx_m167 8 L (rz_rv h a 11 :: S) (rz_mk h ι, w) := rz_gR rfl (by decide) c
theorem g167_8 : rg Z d rx_m167 8 [l0, some (.int x), l2, l3, l4, l5] S (rz_mk h ι, w) = rg Z d rx_m167 9 [l0, some (.int x), l2, l3, l4, l5] (.int x :: S) (rz_mk h ι, w) := rz_s1 fun _ => rfl
theorem g167_9 (c : rz_oc h a 5) : rg Z d rx_m167 9 L (v2 :: v1 :: .ref a :: []) (rz_mk h ι, w) = rz_k true (rz_f Z d 49 [.ref a, v1, v2] (rz_mk h ι, w)) (fun v σ' => rg Z d rx_m167 12 L (v.toList ++ []) σ') := rz_cv (pc := 9) (n := 2) (mi := 49) (S := v2 :: v1 :: .ref a :: []) (rest := []) rfl rfl (Nat.le_of_ble_eq_true rfl) (Nat.le_of_ble_eq_true rfl) c
theorem g167_12 : rg Z d rx_m167 12 [l0, some (.int z), l2, l3, l4, l5] (.int x :: S) (rz_mk h ι, w) = rg Z d rx_m167 13 [l0, some (.int z), some (.int x), l3, l4, l5] S (rz_mk h ι, w) := rz_s1 fun _ => rfl
theorem g167_13 : rg Z d rx_m167 13 L S (rz_mk h ι, w) = rg Z d rx_m167 14 L (.int 0 :: S) (rz_mk h ι, w) := rz_s1 fun _ => rfl
theorem g167_14 : rg Z d rx_m167 14 [l0, l1, some (.int z), l3, l4, l5] (.int x :: S) (rz_mk h ι, w) = rg Z d rx_m167 15 [l0, l1, some (.int z), some (.int x), l4, l5] S (rz_mk h ι, w) := rz_s1 fun _ => rfl
theorem g167_15 : rg Z d rx_m167 15 L S (rz_mk h ι, w) = rg Z d rx_m167 16 L (.int 0 :: S) (rz_mk h ι, w) := rz_s1 fun _ => rfl
theorem g167_16 : rg Z d rx_m167 16 [l0, l1, l2, some (.int z), l4, l5] (.int x :: S) (rz_mk h ι, w) = rg Z d rx_m167 18 [l0, l1, l2, some (.int z), some (.int x), l5] S (rz_mk h ι, w) := rz_s1 fun _ => rfl
theorem g167_18 : rg Z d rx_m167 18 [l0, l1, l2, l3, some (.int x), l5] S (rz_mk h ι, w) = rg Z d rx_m167 20 [l0, l1, l2, l3, some (.int x), l5] (.int x :: S) (rz_mk h ι, w) := rz_s1 fun _ => rfl
theorem g167_20 : rg Z d rx_m167 20 [some (.ref a), l1, l2, l3, l4, l5] S (rz_mk h ι, w) = rg Z d rx_m167 21 [some (.ref a), l1, l2, l3, l4, l5] (.ref a :: S) (rz_mk h ι, w) := rz_s1 fun _ => rfl
theorem g167_21 (c : rz_fR h a 11 11) : rg Z d rx_m167 21 L (.ref a :: S) (rz_mk h ι, w) = rg Z d rx_m167 24 L (rz_rv h a 11 :: S) (rz_mk h ι, w) := rz_gR rfl (by decide) c
theorem g167_24 (c : rz_fI h a 8 3) : rg Z d rx_m167 24 L (.ref a :: S) (rz_mk h ι, w) = rg Z d rx_m167 27 L (.int (ι a 3) :: S) (rz_mk h ι, w) := rz_gI rfl (by decide) c
theorem g167_27 : rg Z d rx_m167 27 L (.int y :: .int x :: S) (rz_mk h ι, w) = if x < y then rg Z d rx_m167 30 L S (rz_mk h ι, w) else rg Z d rx_m167 107 L S (rz_mk h ι, w) := rz_if2 (pc := 27) (t := 107) (off := 80) (cc := .ge) (by decide) rfl
theorem g167_30 : rg Z d rx_m167 30 [some (.ref a), l1, l2, l3, l4, l5] S (rz_mk h ι, w) = rg Z d rx_m167 31 [some (.ref a), l1, l2, l3, l4, l5] (.ref a :: S) (rz_mk h ι, w) := rz_s1 fun _ => rfl
theorem g167_31 (c : rz_fR h a 11 11) : rg Z d rx_m167 31 L (.ref a :: S) (rz_mk h ι, w) = rg Z d rx_m167 34 L (rz_rv h a 11 :: S) (rz_mk h ι, w) := rz_gR rfl (by decide) c
theorem g167_34 : rg Z d rx_m167 34 [l0, l1, l2, l3, some (.int x), l5] S (rz_mk h ι, w) = rg Z d rx_m167 36 [l0, l1, l2, l3, some (.int x), l5] (.int x :: S) (rz_mk h ι, w) := rz_s1 fun _ => rfl
theorem g167_36 (c : rz_oc h a 8) : rg Z d rx_m167 36 L (v1 :: .ref a :: []) (rz_mk h ι, w) = rz_k true (rz_f Z d 68 [.ref a, v1] (rz_mk h ι, w)) (fun v σ' => rg Z d rx_m167 39 L (v.toList ++ []) σ') := rz_cv (pc := 36) (n := 1) (mi := 68) (S := v1 :: .ref a :: []) (rest := []) rfl rfl (Nat.le_of_ble_eq_true rfl) (Nat.le_of_ble_eq_true rfl) c
theorem g167_39 : rg Z d rx_m167 39 L (.int x :: S) (rz_mk h ι, w) = if x = 0 then rg Z d rx_m167 101 L S (rz_mk h ι, w) else rg Z d rx_m167 42 L S (rz_mk h ι, w) := rz_if1 (pc := 39) (t := 101) (off := 62) (cc := .eq) (by decide) rfl
theorem g167_42 : rg Z d rx_m167 42 [l0, l1, l2, l3, some (.int x), l5] S (rz_mk h ι, w) = rg Z d rx_m167 44 [l0, l1, l2, l3, some (.int x), l5] (.int x :: S) (rz_mk h ι, w) := rz_s1 fun _ => rfl
theorem g167_44 : rg Z d rx_m167 44 [some (.ref a), l1, l2, l3, l4, l5] S (rz_mk h ι, w) = rg Z d rx_m167 45 [some (.ref a), l1, l2, l3, l4, l5] (.ref a :: S) (rz_mk h ι, w) := rz_s1 fun _ => rfl
theorem g167_45 (c : rz_fR h a 11 11) : rg Z d rx_m167 45 L (.ref a :: S) (rz_mk h ι, w) = rg Z d rx_m167 48 L (rz_rv h a 11 :: S) (rz_mk h ι, w) := rz_gR rfl (by decide) c
theorem g167_48 (c : rz_fI h a 8 5) : rg Z d rx_m167 48 L (.ref a :: S) (rz_mk h ι, w) = rg Z d rx_m167 51 L (.int (ι a 5) :: S) (rz_mk h ι, w) := rz_gI rfl (by decide) c
theorem g167_51 : rg Z d rx_m167 51 L (.int y :: .int x :: S) (rz_mk h ι, w) = if x = y then rg Z d rx_m167 101 L S (rz_mk h ι, w) else rg Z d rx_m167 54 L S (rz_mk h ι, w) := rz_if2 (pc := 51) (t := 101) (off := 50) (cc := .eq) (by decide) rfl
theorem g167_54 : rg Z d rx_m167 54 [l0, l1, l2, l3, some (.int x), l5] S (rz_mk h ι, w) = rg Z d rx_m167 56 [l0, l1, l2, l3, some (.int x), l5] (.int x :: S) (rz_mk h ι, w) := rz_s1 fun _ => rfl
theorem g167_56 : rg Z d rx_m167 56 [l0, some (.int x), l2, l3, l4, l5] S (rz_mk h ι, w) = rg Z d rx_m167 57 [l0, some (.int x), l2, l3, l4, l5] (.int x :: S) (rz_mk h ι, w) := rz_s1 fun _ => rfl
theorem g167_57 : rg Z d rx_m167 57 L (.int y :: .int x :: S) (rz_mk h ι, w) = if x = y then rg Z d rx_m167 101 L S (rz_mk h ι, w) else rg Z d rx_m167 60 L S (rz_mk h ι, w) := rz_if2 (pc := 57) (t := 101) (off := 44) (cc := .eq) (by decide) rfl
theorem g167_60 : rg Z d rx_m167 60 [some (.ref a), l1, l2, l3, l4, l5] S (rz_mk h ι, w) = rg Z d rx_m167 61 [some (.ref a), l1, l2, l3, l4, l5] (.ref a :: S) (rz_mk h ι, w) := rz_s1 fun _ => rfl
theorem g167_61 (c : rz_fR h a 11 10) : rg Z d rx_m167 61 L (.ref a :: S) (rz_mk h ι, w) = rg Z d rx_m167 64 L (rz_rv h a 10 :: S) (rz_mk h ι, w) := rz_gR rfl (by decide) c
theorem g167_64 : rg Z d rx_m167 64 [some (.ref a), l1, l2, l3, l4, l5] S (rz_mk h ι, w) = rg Z d rx_m167 65 [some (.ref a), l1, l2, l3, l4, l5] (.ref a :: S) (rz_mk h ι, w) := rz_s1 fun _ => rfl
theorem g167_65 (c : rz_fR h a 11 11) : rg Z d rx_m167 65 L (.ref a :: S) (rz_mk h ι, w) = rg Z d rx_m167 68 L (rz_rv h a 11 :: S) (rz_mk h ι, w) := rz_gR rfl (by decide) c
theorem g167_68 : rg Z d rx_m167 68 [l0, l1, l2, l3, some (.int x), l5] S (rz_mk h ι, w) = rg Z d rx_m167 70 [l0, l1, l2, l3, some (.int x), l5] (.int x :: S) (rz_mk h ι, w) := rz_s1 fun _ => rfl
theorem g167_70 (c : rz_oc h a 5) : rg Z d rx_m167 70 L (v2 :: v1 :: .ref a :: []) (rz_mk h ι, w) = rz_k true (rz_f Z d 49 [.ref a, v1, v2] (rz_mk h ι, w)) (fun v σ' => rg Z d rx_m167 73 L (v.toList ++ []) σ') := rz_cv (pc := 70) (n := 2) (mi := 49) (S := v2 :: v1 :: .ref a :: []) (rest := []) rfl rfl (Nat.le_of_ble_eq_true rfl) (Nat.le_of_ble_eq_true rfl) c
theorem g167_73 : rg Z d rx_m167 73 [l0, l1, l2, l3, some (.int z), l5] (.int x :: S) (rz_mk h ι, w) = rg Z d rx_m167 75 [l0, l1, l2, l3, some (.int z), some (.int x)] S (rz_mk h ι, w) := rz_s1 fun _ => rfl
theorem g167_75 : rg Z d rx_m167 75 [l0, l1, l2, some (.int x), l4, l5] S (rz_mk h ι, w) = rg Z d rx_m167 76 [l0, l1, l2, some (.int x), l4, l5] (.int x :: S) (rz_mk h ι, w) := rz_s1 fun _ => rfl
theorem g167_76 : rg Z d rx_m167 76 [l0, l1, l2, l3, l4, some (.int x)] S (rz_mk h ι, w) = rg Z d rx_m167 78 [l0, l1, l2, l3, l4, some (.int x)] (.int x :: S) (rz_mk h ι, w) := rz_s1 fun _ => rfl
theorem g167_78 : rg Z d rx_m167 78 [l0, l1, some (.int x), l3, l4, l5] S (rz_mk h ι, w) = rg Z d rx_m167 79 [l0, l1, some (.int x), l3, l4, l5] (.int x :: S) (rz_mk h ι, w) := rz_s1 fun _ => rfl
theorem g167_79 : rg Z d rx_m167 79 L (.int y :: .int x :: S) (rz_mk h ι, w) = if y < x then rg Z d rx_m167 94 L S (rz_mk h ι, w) else rg Z d rx_m167 82 L S (rz_mk h ι, w) := rz_if2 (pc := 79) (t := 94) (off := 15) (cc := .gt) (by decide) rfl
theorem g167_82 : rg Z d rx_m167 82 [l0, l1, l2, l3, l4, some (.int x)] S (rz_mk h ι, w) = rg Z d rx_m167 84 [l0, l1, l2, l3, l4, some (.int x)] (.int x :: S) (rz_mk h ι, w) := rz_s1 fun _ => rfl
theorem g167_84 : rg Z d rx_m167 84 [l0, l1, some (.int x), l3, l4, l5] S (rz_mk h ι, w) = rg Z d rx_m167 85 [l0, l1, some (.int x), l3, l4, l5] (.int x :: S) (rz_mk h ι, w) := rz_s1 fun _ => rfl
theorem g167_85 : rg Z d rx_m167 85 L (.int y :: .int x :: S) (rz_mk h ι, w) = if x = y then rg Z d rx_m167 88 L S (rz_mk h ι, w) else rg Z d rx_m167 98 L S (rz_mk h ι, w) := rz_if2 (pc := 85) (t := 98) (off := 13) (cc := .ne) (by decide) rfl
theorem g167_88 : rg Z d rx_m167 88 [l0, l1, l2, l3, some (.int x), l5] S (rz_mk h ι, w) = rg Z d rx_m167 90 [l0, l1, l2, l3, some (.int x), l5] (.int x :: S) (rz_mk h ι, w) := rz_s1 fun _ => rfl
theorem g167_90 : rg Z d rx_m167 90 [l0, some (.int x), l2, l3, l4, l5] S (rz_mk h ι, w) = rg Z d rx_m167 91 [l0, some (.int x), l2, l3, l4, l5] (.int x :: S) (rz_mk h ι, w) := rz_s1 fun _ => rfl
theorem g167_91 : rg Z d rx_m167 91 L (.int y :: .int x :: S) (rz_mk h ι, w) = if x < y then rg Z d rx_m167 94 L S (rz_mk h ι, w) else rg Z d rx_m167 98 L S (rz_mk h ι, w) := rz_if2 (pc := 91) (t := 98) (off := 7) (cc := .ge) (by decide) rfl
theorem g167_94 : rg Z d rx_m167 94 L S (rz_mk h ι, w) = rg Z d rx_m167 95 L (.int 1 :: S) (rz_mk h ι, w) := rz_s1 fun _ => rfl
theorem g167_95 : rg Z d rx_m167 95 L S (rz_mk h ι, w) = rg Z d rx_m167 99 L S (rz_mk h ι, w) := rz_s1 fun _ => rfl
theorem g167_98 : rg Z d rx_m167 98 L S (rz_mk h ι, w) = rg Z d rx_m167 99 L (.int 0 :: S) (rz_mk h ι, w) := rz_s1 fun _ => rfl
theorem g167_99 : rg Z d rx_m167 99 L (.int y :: .int x :: S) (rz_mk h ι, w) = rg Z d rx_m167 100 L (.int (x + y) :: S) (rz_mk h ι, w) := rz_s1 fun _ => rfl
theorem g167_100 : rg Z d rx_m167 100 [l0, l1, some (.int z), l3, l4, l5] (.int x :: S) (rz_mk h ι, w) = rg Z d rx_m167 101 [l0, l1, some (.int z), some (.int x), l4, l5] S (rz_mk h ι, w) := rz_s1 fun _ => rfl
theorem g167_101 : rg Z d rx_m167 101 [l0, l1, l2, some (.int z), some (.int x), l5] S (rz_mk h ι, w) = rg Z d rx_m167 104 [l0, l1, l2, some (.int z), some (.int (x + 1)), l5] S (rz_mk h ι, w) := rz_s1 fun _ => rfl
theorem g167_104 : rg Z d rx_m167 104 L S (rz_mk h ι, w) = rg Z d rx_m167 18 L S (rz_mk h ι, w) := rz_s1 fun _ => rfl
theorem g167_107 : rg Z d rx_m167 107 [l0, l1, l2, some (.int x), l4, l5] S (rz_mk h ι, w) = rg Z d rx_m167 108 [l0, l1, l2, some (.int x), l4, l5] (.int x :: S) (rz_mk h ι, w) := rz_s1 fun _ => rfl
theorem g167_108 : rg Z d rx_m167 108 L [.int x] (rz_mk h ι, w) = some (.inl (some (.int x)), (rz_mk h ι, w)) := rz_reti rfl rfl rfl
theorem e167 : rz_f Z (d + 1) 167 [.ref t0, .int s1] σ = rg Z d rx_m167 0 [some (.ref t0), some (.int s1), none, none, none, none] [] σ := rz_f_eq rfl (Nat.le_of_ble_eq_true rfl)
theorem g168_0 : rg Z d rx_m168 0 [l0, l1, some (.int x), l3] S (rz_mk h ι, w) = rg Z d rx_m168 1 [l0, l1, some (.int x), l3] (.int x :: S) (rz_mk h ι, w) := rz_s1 fun _ => rfl
theorem g168_1 : rg Z d rx_m168 1 L (.int x :: S) (rz_mk h ι, w) = if x = 0 then rg Z d rx_m168 4 L S (rz_mk h ι, w) else rg Z d rx_m168 18 L S (rz_mk h ι, w) := rz_if1 (pc := 1) (t := 18) (off := 17) (cc := .ne) (by decide) rfl
theorem g168_4 : rg Z d rx_m168 4 [l0, l1, l2, some (.int x)] S (rz_mk h ι, w) = rg Z d rx_m168 5 [l0, l1, l2, some (.int x)] (.int x :: S) (rz_mk h ι, w) := rz_s1 fun _ => rfl
theorem g168_5 : rg Z d rx_m168 5 L (.int x :: S) (rz_mk h ι, w) = if x = 0 then rg Z d rx_m168 8 L S (rz_mk h ι, w) else rg Z d rx_m168 14 L S (rz_mk h ι, w) := rz_if1 (pc := 5) (t := 14) (off := 9) (cc := .ne) (by decide) rfl
theorem g168_8 : rg Z d rx_m168 8 [some (.int x), l1, l2, l3] S (rz_mk h ι, w) = rg Z d rx_m168 9 [some (.int x), l1, l2, l3] (.int x :: S) (rz_mk h ι, w) := rz_s1 fun _ => rfl
theorem g168_9 : rg Z d rx_m168 9 L S (rz_mk h ι, w) = rg Z d rx_m168 10 L (.int 2 :: S) (rz_mk h ι, w) := rz_s1 fun _ => rfl
theorem g168_10 : rg Z d rx_m168 10 L (.int 2 :: .int x :: S) (rz_mk h ι, w) = rg Z d rx_m168 11 L (.int (x / 2) :: S) (rz_mk h ι, w) := rz_div rfl (by decide)
theorem g168_11 : rg Z d rx_m168 11 L S (rz_mk h ι, w) = rg Z d rx_m168 15 L S (rz_mk h ι, w) := rz_s1 fun _ => rfl
theorem g168_14 : rg Z d rx_m168 14 [some (.int x), l1, l2, l3] S (rz_mk h ι, w) = rg Z d rx_m168 15 [some (.int x), l1, l2, l3] (.int x :: S) (rz_mk h ι, w) := rz_s1 fun _ => rfl
theorem g168_15 : rg Z d rx_m168 15 [l0, some (.int x), l2, l3] S (rz_mk h ι, w) = rg Z d rx_m168 16 [l0, some (.int x), l2, l3] (.int x :: S) (rz_mk h ι, w) := rz_s1 fun _ => rfl
theorem g168_16 : rg Z d rx_m168 16 L (.int y :: .int x :: S) (rz_mk h ι, w) = rg Z d rx_m168 17 L (.int (x - y) :: S) (rz_mk h ι, w) := rz_s1 fun _ => rfl
theorem g168_17 : rg Z d rx_m168 17 L [.int x] (rz_mk h ι, w) = some (.inl (some (.int x)), (rz_mk h ι, w)) := rz_reti rfl rfl rfl
theorem g168_18 : rg Z d rx_m168 18 [l0, l1, l2, some (.int x)] S (rz_mk h ι, w) = rg Z d rx_m168 19 [l0, l1, l2, some (.int x)] (.int x :: S) (rz_mk h ι, w) := rz_s1 fun _ => rfl
theorem g168_19 : rg Z d rx_m168 19 L (.int x :: S) (rz_mk h ι, w) = if x = 0 then rg Z d rx_m168 22 L S (rz_mk h ι, w) else rg Z d rx_m168 26 L S (rz_mk h ι, w) := rz_if1 (pc := 19) (t := 26) (off := 7) (cc := .ne) (by decide) rfl
theorem g168_22 : rg Z d rx_m168 22 L S (rz_mk h ι, w) = rg Z d rx_m168 23 L (.int 0 :: S) (rz_mk h ι, w) := rz_s1 fun _ => rfl
theorem g168_23 : rg Z d rx_m168 23 L S (rz_mk h ι, w) = rg Z d rx_m168 29 L S (rz_mk h ι, w) := rz_s1 fun _ => rfl
theorem g168_26 : rg Z d rx_m168 26 [some (.int x), l1, l2, l3] S (rz_mk h ι, w) = rg Z d rx_m168 27 [some (.int x), l1, l2, l3] (.int x :: S) (rz_mk h ι, w) := rz_s1 fun _ => rfl
theorem g168_27 : rg Z d rx_m168 27 L S (rz_mk h ι, w) = rg Z d rx_m168 28 L (.int 2 :: S) (rz_mk h ι, w) := rz_s1 fun _ => rfl
theorem g168_28 : rg Z d rx_m168 28 L (.int 2 :: .int x :: S) (rz_mk h ι, w) = rg Z d rx_m168 29 L (.int (x / 2) :: S) (rz_mk h ι, w) := rz_div rfl (by decide)
theorem g168_29 : rg Z d rx_m168 29 L [.int x] (rz_mk h ι, w) = some (.inl (some (.int x)), (rz_mk h ι, w)) := rz_reti rfl rfl rfl
theorem e168 : rz_f Z (d + 1) 168 [.int s0, .int s1, .int s2, .int s3] σ = rg Z d rx_m168 0 [some (.int s0), some (.int s1), some (.int s2), some (.int s3)] [] σ := rz_f_eq rfl (Nat.le_of_ble_eq_true rfl)
theorem g169_0 : rg Z d rx_m169 0 L S (rz_mk h ι, w) = rg Z d rx_m169 1 L (.long 0 :: S) (rz_mk h ι, w) := rz_s1 fun _ => rfl
theorem g169_1 : rg Z d rx_m169 1 [l0, l1, some (.int z), l3, l4, l5, l6, l7] (.long q :: S) (rz_mk h ι, w) = rg Z d rx_m169 2 [l0, l1, some (.int z), some (.long q), none, l5, l6, l7] S (rz_mk h ι, w) := rz_s1 fun _ => rfl
theorem g169_2 : rg Z d rx_m169 2 L S (rz_mk h ι, w) = rg Z d rx_m169 3 L (.long 1 :: S) (rz_mk h ι, w) := rz_s1 fun _ => rfl
theorem g169_3 : rg Z d rx_m169 3 [l0, l1, l2, l3, none, l5, l6, l7] (.long q :: S) (rz_mk h ι, w) = rg Z d rx_m169 5 [l0, l1, l2, l3, none, some (.long q), none, l7] S (rz_mk h ι, w) := rz_s1 fun _ => rfl
theorem g169_5 : rg Z d rx_m169 5 L S (rz_mk h ι, w) = rg Z d rx_m169 6 L (.int 0 :: S) (rz_mk h ι, w) := rz_s1 fun _ => rfl
theorem g169_6 : rg Z d rx_m169 6 [l0, l1, l2, l3, l4, l5, none, l7] (.int x :: S) (rz_mk h ι, w) = rg Z d rx_m169 8 [l0, l1, l2, l3, l4, l5, none, some (.int x)] S (rz_mk h ι, w) := rz_s1 fun _ => rfl
theorem g169_8 : rg Z d rx_m169 8 [l0, l1, l2, l3, l4, l5, l6, some (.int x)] S (rz_mk h ι, w) = rg Z d rx_m169 10 [l0, l1, l2, l3, l4, l5, l6, some (.int x)] (.int x :: S) (rz_mk h ι, w) := rz_s1 fun _ => rfl
theorem g169_10 : rg Z d rx_m169 10 [some (.int x), l1, l2, l3, l4, l5, l6, l7] S (rz_mk h ι, w) = rg Z d rx_m169 11 [some (.int x), l1, l2, l3, l4, l5, l6, l7] (.int x :: S) (rz_mk h ι, w) := rz_s1 fun _ => rfl
theorem g169_11 : rg Z d rx_m169 11 L (.int y :: .int x :: S) (rz_mk h ι, w) = if y < x then rg Z d rx_m169 66 L S (rz_mk h ι, w) else rg Z d rx_m169 14 L S (rz_mk h ι, w) := rz_if2 (pc := 11) (t := 66) (off := 55) (cc := .gt) (by decide) rfl
theorem g169_14 : rg Z d rx_m169 14 [l0, l1, l2, l3, l4, l5, l6, some (.int x)] S (rz_mk h ι, w) = rg Z d rx_m169 16 [l0, l1, l2, l3, l4, l5, l6, some (.int x)] (.int x :: S) (rz_mk h ι, w) := rz_s1 fun _ => rfl
theorem g169_16 : rg Z d rx_m169 16 [l0, some (.int x), l2, l3, l4, l5, l6, l7] S (rz_mk h ι, w) = rg Z d rx_m169 17 [l0, some (.int x), l2, l3, l4, l5, l6, l7] (.int x :: S) (rz_mk h ι, w) := rz_s1 fun _ => rfl
theorem g169_17 : rg Z d rx_m169 17 L (.int y :: .int x :: S) (rz_mk h ι, w) = if x < y then rg Z d rx_m169 44 L S (rz_mk h ι, w) else rg Z d rx_m169 20 L S (rz_mk h ι, w) := rz_if2 (pc := 17) (t := 44) (off := 27) (cc := .lt) (by decide) rfl
theorem g169_20 : rg Z d rx_m169 20 [l0, l1, l2, some (.long q), l4, l5, l6, l7] S (rz_mk h ι, w) = rg Z d rx_m169 21 [l0, l1, l2, some (.long q), l4, l5, l6, l7] (.long q :: S) (rz_mk h ι, w) := rz_s1 fun _ => rfl
theorem g169_21 : rg Z d rx_m169 21 [l0, l1, l2, l3, l4, some (.long q), l6, l7] S (rz_mk h ι, w) = rg Z d rx_m169 23 [l0, l1, l2, l3, l4, some (.long q), l6, l7] (.long q :: S) (rz_mk h ι, w) := rz_s1 fun _ => rfl
theorem g169_23 : rg Z d rx_m169 23 [l0, l1, some (.int x), l3, l4, l5, l6, l7] S (rz_mk h ι, w) = rg Z d rx_m169 24 [l0, l1, some (.int x), l3, l4, l5, l6, l7] (.int x :: S) (rz_mk h ι, w) := rz_s1 fun _ => rfl
theorem g169_24 : rg Z d rx_m169 24 [l0, l1, l2, l3, l4, l5, l6, some (.int x)] S (rz_mk h ι, w) = rg Z d rx_m169 26 [l0, l1, l2, l3, l4, l5, l6, some (.int x)] (.int x :: S) (rz_mk h ι, w) := rz_s1 fun _ => rfl
theorem g169_26 : rg Z d rx_m169 26 L (v2 :: v1 :: [.long q0, .long q1]) (rz_mk h ι, w) = rz_k true (rz_f Z d 170 [v1, v2] (rz_mk h ι, w)) (fun v σ' => rg Z d rx_m169 29 L (v.toList ++ [.long q0, .long q1]) σ') := rz_cs (pc := 26) (n := 2) (mi := 170) (S := v2 :: v1 :: [.long q0, .long q1]) (rest := [.long q0, .long q1]) rfl rfl (Nat.le_of_ble_eq_true rfl) (Nat.le_of_ble_eq_true rfl)
theorem g169_29 : rg Z d rx_m169 29 L (.long q :: .long p :: S) (rz_mk h ι, w) = rg Z d rx_m169 30 L (.long (p * q) :: S) (rz_mk h ι, w) := rz_s1 fun _ => rfl
theorem g169_30 : rg Z d rx_m169 30 L S (rz_mk h ι, w) = rg Z d rx_m169 32 L (.int 16 :: S) (rz_mk h ι, w) := rz_s1 fun _ => rfl
theorem g169_32 : rg Z d rx_m169 32 [l0, l1, some (.int x), l3, l4, l5, l6, l7] S (rz_mk h ι, w) = rg Z d rx_m169 33 [l0, l1, some (.int x), l3, l4, l5, l6, l7] (.int x :: S) (rz_mk h ι, w) := rz_s1 fun _ => rfl
theorem g169_33 : rg Z d rx_m169 33 L (.int y :: .int x :: S) (rz_mk h ι, w) = rg Z d rx_m169 34 L (.int (x - y) :: S) (rz_mk h ι, w) := rz_s1 fun _ => rfl
theorem g169_34 : rg Z d rx_m169 34 [some (.int x), l1, l2, l3, l4, l5, l6, l7] S (rz_mk h ι, w) = rg Z d rx_m169 35 [some (.int x), l1, l2, l3, l4, l5, l6, l7] (.int x :: S) (rz_mk h ι, w) := rz_s1 fun _ => rfl
theorem g169_35 : rg Z d rx_m169 35 [l0, l1, l2, l3, l4, l5, l6, some (.int x)] S (rz_mk h ι, w) = rg Z d rx_m169 37 [l0, l1, l2, l3, l4, l5, l6, some (.int x)] (.int x :: S) (rz_mk h ι, w) := rz_s1 fun _ => rfl
theorem g169_37 : rg Z d rx_m169 37 L (.int y :: .int x :: S) (rz_mk h ι, w) = rg Z d rx_m169 38 L (.int (x - y) :: S) (rz_mk h ι, w) := rz_s1 fun _ => rfl
theorem g169_38 : rg Z d rx_m169 38 L (v2 :: v1 :: [.long q0, .long q1]) (rz_mk h ι, w) = rz_k true (rz_f Z d 170 [v1, v2] (rz_mk h ι, w)) (fun v σ' => rg Z d rx_m169 41 L (v.toList ++ [.long q0, .long q1]) σ') := rz_cs (pc := 38) (n := 2) (mi := 170) (S := v2 :: v1 :: [.long q0, .long q1]) (rest := [.long q0, .long q1]) rfl rfl (Nat.le_of_ble_eq_true rfl) (Nat.le_of_ble_eq_true rfl)
theorem g169_41 : rg Z d rx_m169 41 L (.long q :: .long p :: S) (rz_mk h ι, w) = rg Z d rx_m169 42 L (.long (p * q) :: S) (rz_mk h ι, w) := rz_s1 fun _ => rfl
theorem g169_42 : rg Z d rx_m169 42 L (.long q :: .long p :: S) (rz_mk h ι, w) = rg Z d rx_m169 43 L (.long (p + q) :: S) (rz_mk h ι, w) := rz_s1 fun _ => rfl
theorem g169_43 : rg Z d rx_m169 43 [l0, l1, some (.int z), l3, l4, l5, l6, l7] (.long q :: S) (rz_mk h ι, w) = rg Z d rx_m169 44 [l0, l1, some (.int z), some (.long q), none, l5, l6, l7] S (rz_mk h ι, w) := rz_s1 fun _ => rfl
theorem g169_44 : rg Z d rx_m169 44 [l0, l1, l2, l3, l4, some (.long q), l6, l7] S (rz_mk h ι, w) = rg Z d rx_m169 46 [l0, l1, l2, l3, l4, some (.long q), l6, l7] (.long q :: S) (rz_mk h ι, w) := rz_s1 fun _ => rfl
theorem g169_46 : rg Z d rx_m169 46 [some (.int x), l1, l2, l3, l4, l5, l6, l7] S (rz_mk h ι, w) = rg Z d rx_m169 47 [some (.int x), l1, l2, l3, l4, l5, l6, l7] (.int x :: S) (rz_mk h ι, w) := rz_s1 fun _ => rfl
theorem g169_47 : rg Z d rx_m169 47 [l0, l1, l2, l3, l4, l5, l6, some (.int x)] S (rz_mk h ι, w) = rg Z d rx_m169 49 [l0, l1, l2, l3, l4, l5, l6, some (.int x)] (.int x :: S) (rz_mk h ι, w) := rz_s1 fun _ => rfl
theorem g169_49 : rg Z d rx_m169 49 L (.int y :: .int x :: S) (rz_mk h ι, w) = rg Z d rx_m169 50 L (.int (x - y) :: S) (rz_mk h ι, w) := rz_s1 fun _ => rfl
theorem g169_50 : rg Z d rx_m169 50 L (.int x :: S) (rz_mk h ι, w) = rg Z d rx_m169 51 L (.long x.toInt64 :: S) (rz_mk h ι, w) := rz_s1 fun _ => rfl
theorem g169_51 : rg Z d rx_m169 51 L (.long q :: .long p :: S) (rz_mk h ι, w) = rg Z d rx_m169 52 L (.long (p * q) :: S) (rz_mk h ι, w) := rz_s1 fun _ => rfl
theorem g169_52 : rg Z d rx_m169 52 [l0, l1, l2, l3, l4, l5, l6, some (.int x)] S (rz_mk h ι, w) = rg Z d rx_m169 54 [l0, l1, l2, l3, l4, l5, l6, some (.int x)] (.int x :: S) (rz_mk h ι, w) := rz_s1 fun _ => rfl
theorem g169_54 : rg Z d rx_m169 54 L S (rz_mk h ι, w) = rg Z d rx_m169 55 L (.int 1 :: S) (rz_mk h ι, w) := rz_s1 fun _ => rfl
theorem g169_55 : rg Z d rx_m169 55 L (.int y :: .int x :: S) (rz_mk h ι, w) = rg Z d rx_m169 56 L (.int (x + y) :: S) (rz_mk h ι, w) := rz_s1 fun _ => rfl
theorem g169_56 : rg Z d rx_m169 56 L (.int x :: S) (rz_mk h ι, w) = rg Z d rx_m169 57 L (.long x.toInt64 :: S) (rz_mk h ι, w) := rz_s1 fun _ => rfl
theorem g169_57 (c : ¬ q = 0) : rg Z d rx_m169 57 L (.long q :: .long p :: S) (rz_mk h ι, w) = rg Z d rx_m169 58 L (.long (p / q) :: S) (rz_mk h ι, w) := rz_ldiv rfl c
theorem g169_58 : rg Z d rx_m169 58 [l0, l1, l2, l3, none, l5, l6, l7] (.long q :: S) (rz_mk h ι, w) = rg Z d rx_m169 60 [l0, l1, l2, l3, none, some (.long q), none, l7] S (rz_mk h ι, w) := rz_s1 fun _ => rfl
theorem g169_60 : rg Z d rx_m169 60 [l0, l1, l2, l3, l4, l5, none, some (.int x)] S (rz_mk h ι, w) = rg Z d rx_m169 63 [l0, l1, l2, l3, l4, l5, none, some (.int (x + 1))] S (rz_mk h ι, w) := rz_s1 fun _ => rfl
theorem g169_63 : rg Z d rx_m169 63 L S (rz_mk h ι, w) = rg Z d rx_m169 8 L S (rz_mk h ι, w) := rz_s1 fun _ => rfl
theorem g169_66 : rg Z d rx_m169 66 [l0, l1, l2, some (.long q), l4, l5, l6, l7] S (rz_mk h ι, w) = rg Z d rx_m169 67 [l0, l1, l2, some (.long q), l4, l5, l6, l7] (.long q :: S) (rz_mk h ι, w) := rz_s1 fun _ => rfl
theorem g169_67 : rg Z d rx_m169 67 L [.long q] (rz_mk h ι, w) = some (.inl (some (.long q)), (rz_mk h ι, w)) := rz_r1 fun _ => rfl
theorem e169 : rz_f Z (d + 1) 169 [.int s0, .int s1, .int s2] σ = rg Z d rx_m169 0 [some (.int s0), some (.int s1), some (.int s2), none, none, none, none, none] [] σ := rz_f_eq rfl (Nat.le_of_ble_eq_true rfl)
theorem g170_0 : rg Z d rx_m170 0 L S (rz_mk h ι, w) = rg Z d rx_m170 1 L (.long 1 :: S) (rz_mk h ι, w) := rz_s1 fun _ => rfl
theorem g170_1 : rg Z d rx_m170 1 [l0, some (.int z), l2, l3, l4] (.long q :: S) (rz_mk h ι, w) = rg Z d rx_m170 2 [l0, some (.int z), some (.long q), none, l4] S (rz_mk h ι, w) := rz_s1 fun _ => rfl
theorem g170_2 : rg Z d rx_m170 2 L S (rz_mk h ι, w) = rg Z d rx_m170 3 L (.int 0 :: S) (rz_mk h ι, w) := rz_s1 fun _ => rfl
theorem g170_3 : rg Z d rx_m170 3 [l0, l1, l2, none, l4] (.int x :: S) (rz_mk h ι, w) = rg Z d rx_m170 5 [l0, l1, l2, none, some (.int x)] S (rz_mk h ι, w) := rz_s1 fun _ => rfl
theorem g170_5 : rg Z d rx_m170 5 [l0, l1, l2, l3, some (.int x)] S (rz_mk h ι, w) = rg Z d rx_m170 7 [l0, l1, l2, l3, some (.int x)] (.int x :: S) (rz_mk h ι, w) := rz_s1 fun _ => rfl
theorem g170_7 : rg Z d rx_m170 7 [l0, some (.int x), l2, l3, l4] S (rz_mk h ι, w) = rg Z d rx_m170 8 [l0, some (.int x), l2, l3, l4] (.int x :: S) (rz_mk h ι, w) := rz_s1 fun _ => rfl
theorem g170_8 : rg Z d rx_m170 8 L (.int y :: .int x :: S) (rz_mk h ι, w) = if x < y then rg Z d rx_m170 11 L S (rz_mk h ι, w) else rg Z d rx_m170 22 L S (rz_mk h ι, w) := rz_if2 (pc := 8) (t := 22) (off := 14) (cc := .ge) (by decide) rfl
theorem g170_11 : rg Z d rx_m170 11 [l0, l1, some (.long q), l3, l4] S (rz_mk h ι, w) = rg Z d rx_m170 12 [l0, l1, some (.long q), l3, l4] (.long q :: S) (rz_mk h ι, w) := rz_s1 fun _ => rfl
theorem g170_12 : rg Z d rx_m170 12 [some (.int x), l1, l2, l3, l4] S (rz_mk h ι, w) = rg Z d rx_m170 13 [some (.int x), l1, l2, l3, l4] (.int x :: S) (rz_mk h ι, w) := rz_s1 fun _ => rfl
theorem g170_13 : rg Z d rx_m170 13 L (.int x :: S) (rz_mk h ι, w) = rg Z d rx_m170 14 L (.long x.toInt64 :: S) (rz_mk h ι, w) := rz_s1 fun _ => rfl
theorem g170_14 : rg Z d rx_m170 14 L (.long q :: .long p :: S) (rz_mk h ι, w) = rg Z d rx_m170 15 L (.long (p * q) :: S) (rz_mk h ι, w) := rz_s1 fun _ => rfl
theorem g170_15 : rg Z d rx_m170 15 [l0, some (.int z), l2, l3, l4] (.long q :: S) (rz_mk h ι, w) = rg Z d rx_m170 16 [l0, some (.int z), some (.long q), none, l4] S (rz_mk h ι, w) := rz_s1 fun _ => rfl
theorem g170_16 : rg Z d rx_m170 16 [l0, l1, l2, none, some (.int x)] S (rz_mk h ι, w) = rg Z d rx_m170 19 [l0, l1, l2, none, some (.int (x + 1))] S (rz_mk h ι, w) := rz_s1 fun _ => rfl
theorem g170_19 : rg Z d rx_m170 19 L S (rz_mk h ι, w) = rg Z d rx_m170 5 L S (rz_mk h ι, w) := rz_s1 fun _ => rfl
theorem g170_22 : rg Z d rx_m170 22 [l0, l1, some (.long q), l3, l4] S (rz_mk h ι, w) = rg Z d rx_m170 23 [l0, l1, some (.long q), l3, l4] (.long q :: S) (rz_mk h ι, w) := rz_s1 fun _ => rfl
theorem g170_23 : rg Z d rx_m170 23 L [.long q] (rz_mk h ι, w) = some (.inl (some (.long q)), (rz_mk h ι, w)) := rz_r1 fun _ => rfl
theorem e170 : rz_f Z (d + 1) 170 [.int s0, .int s1] σ = rg Z d rx_m170 0 [some (.int s0), some (.int s1), none, none, none] [] σ := rz_f_eq rfl (Nat.le_of_ble_eq_true rfl)
theorem g171_0 : rg Z d rx_m171 0 [some (.ref a)] S (rz_mk h ι, w) = rg Z d rx_m171 1 [some (.ref a)] (.ref a :: S) (rz_mk h ι, w) := rz_s1 fun _ => rfl
theorem g171_1 : rg Z d rx_m171 1 L (.ref a :: []) (rz_mk h ι, w) = rg Z d rx_m171 4 L [] (rz_mk h ι, w) := rz_oi rfl (Nat.le_of_ble_eq_true rfl)
theorem g171_4 : rg Z d rx_m171 4 [some (.ref a)] S (rz_mk h ι, w) = rg Z d rx_m171 5 [some (.ref a)] (.ref a :: S) (rz_mk h ι, w) := rz_s1 fun _ => rfl
theorem g171_5 : rg Z d rx_m171 5 L S (rz_mk h ι, w) = rg Z d rx_m171 6 L (.int (-1) :: S) (rz_mk h ι, w) := rz_s1 fun _ => rfl
theorem g171_6 (c : rz_fI h a 12 3) (hz : Z.2.1 ≤ a) : rg Z d rx_m171 6 L (.int x :: .ref a :: S) (rz_mk h ι, w) = rg Z d rx_m171 9 L S (rz_mk h (rz_up ι a 3 x), w) := rz_pI rfl c hz
theorem g171_9 : rg Z d rx_m171 9 [some (.ref a)] S (rz_mk h ι, w) = rg Z d rx_m171 10 [some (.ref a)] (.ref a :: S) (rz_mk h ι, w) := rz_s1 fun _ => rfl
theorem g171_10 : rg Z d rx_m171 10 L S (rz_mk h ι, w) = rg Z d rx_m171 13 L (.int 600 :: S) (rz_mk h ι, w) := rz_s1 fun _ => rfl
theorem g171_13 : rg Z d rx_m171 13 L (.int 600 :: S) (rz_mk h ι, w) = rg Z d rx_m171 15 L (.ref w.1 :: S) (rz_mk (rx_up h w.1 (.inl (0, 600, fun _ => .int 0))) (rz_z ι w.1), w.1 + 1, w.2 + 600) := rz_nwa rfl (by decide) (by decide)
theorem g171_15 (c : rz_fR h a 12 9) (hv : rz_isr v = true) (hz : Z.2.1 ≤ a) : rg Z d rx_m171 15 L (v :: .ref a :: S) (rz_mk h ι, w) = rg Z d rx_m171 18 L S (rz_mk (rz_hs h a 9 v) ι, w) := rz_pR rfl c hv hz
theorem g171_18 : rg Z d rx_m171 18 [some (.ref a)] S (rz_mk h ι, w) = rg Z d rx_m171 19 [some (.ref a)] (.ref a :: S) (rz_mk h ι, w) := rz_s1 fun _ => rfl
theorem g171_19 : rg Z d rx_m171 19 L S (rz_mk h ι, w) = rg Z d rx_m171 20 L (.int 2 :: S) (rz_mk h ι, w) := rz_s1 fun _ => rfl
theorem g171_20 : rg Z d rx_m171 20 L (.int 2 :: S) (rz_mk h ι, w) = rg Z d rx_m171 22 L (.ref w.1 :: S) (rz_mk (rx_up h w.1 (.inl (0, 2, fun _ => .int 0))) (rz_z ι w.1), w.1 + 1, w.2 + 2) := rz_nwa rfl (by decide) (by decide)
theorem g171_22 (c : rz_fR h a 12 10) (hv : rz_isr v = true) (hz : Z.2.1 ≤ a) : rg Z d rx_m171 22 L (v :: .ref a :: S) (rz_mk h ι, w) = rg Z d rx_m171 25 L S (rz_mk (rz_hs h a 10 v) ι, w) := rz_pR rfl c hv hz
theorem g171_25 : rg Z d rx_m171 25 [some (.ref a)] S (rz_mk h ι, w) = rg Z d rx_m171 26 [some (.ref a)] (.ref a :: S) (rz_mk h ι, w) := rz_s1 fun _ => rfl
theorem g171_26 : rg Z d rx_m171 26 L S (rz_mk h ι, w) = rg Z d rx_m171 27 L (.int 3 :: S) (rz_mk h ι, w) := rz_s1 fun _ => rfl
theorem g171_27 : rg Z d rx_m171 27 L (.int 3 :: S) (rz_mk h ι, w) = rg Z d rx_m171 29 L (.ref w.1 :: S) (rz_mk (rx_up h w.1 (.inl (0, 3, fun _ => .int 0))) (rz_z ι w.1), w.1 + 1, w.2 + 3) := rz_nwa rfl (by decide) (by decide)
theorem g171_29 (c : rz_fR h a 12 11) (hv : rz_isr v = true) (hz : Z.2.1 ≤ a) : rg Z d rx_m171 29 L (v :: .ref a :: S) (rz_mk h ι, w) = rg Z d rx_m171 32 L S (rz_mk (rz_hs h a 11 v) ι, w) := rz_pR rfl c hv hz
theorem g171_32 : rg Z d rx_m171 32 [some (.ref a)] S (rz_mk h ι, w) = rg Z d rx_m171 33 [some (.ref a)] (.ref a :: S) (rz_mk h ι, w) := rz_s1 fun _ => rfl
theorem g171_33 : rg Z d rx_m171 33 L S (rz_mk h ι, w) = rg Z d rx_m171 34 L (.int 3 :: S) (rz_mk h ι, w) := rz_s1 fun _ => rfl
theorem g171_34 : rg Z d rx_m171 34 L (.int 3 :: S) (rz_mk h ι, w) = rg Z d rx_m171 36 L (.ref w.1 :: S) (rz_mk (rx_up h w.1 (.inl (0, 3, fun _ => .int 0))) (rz_z ι w.1), w.1 + 1, w.2 + 3) := rz_nwa rfl (by decide) (by decide)
theorem g171_36 (c : rz_fR h a 12 12) (hv : rz_isr v = true) (hz : Z.2.1 ≤ a) : rg Z d rx_m171 36 L (v :: .ref a :: S) (rz_mk h ι, w) = rg Z d rx_m171 39 L S (rz_mk (rz_hs h a 12 v) ι, w) := rz_pR rfl c hv hz
theorem g171_39 : rg Z d rx_m171 39 [some (.ref a)] S (rz_mk h ι, w) = rg Z d rx_m171 40 [some (.ref a)] (.ref a :: S) (rz_mk h ι, w) := rz_s1 fun _ => rfl
theorem g171_40 : rg Z d rx_m171 40 L S (rz_mk h ι, w) = rg Z d rx_m171 42 L (.int 8 :: S) (rz_mk h ι, w) := rz_s1 fun _ => rfl
theorem g171_42 : rg Z d rx_m171 42 L S (rz_mk h ι, w) = rg Z d rx_m171 43 L (.int 3 :: S) (rz_mk h ι, w) := rz_s1 fun _ => rfl
theorem g171_43 : rg Z d rx_m171 43 L (.int 3 :: .int 8 :: S) (rz_mk h ι, w) = rg Z d rx_m171 47 L (.ref w.1 :: S) (rz_mk (rx_mnh h w.1 8 3) (rz_zs ι w.1 8), w.1 + 1 + 8, w.2 + 8 + 8 * 3) := rz_nwm rfl (by decide) (by decide) (by decide) (by decide)
theorem g171_47 (c : rz_fR h a 12 13) (hv : rz_isr v = true) (hz : Z.2.1 ≤ a) : rg Z d rx_m171 47 L (v :: .ref a :: S) (rz_mk h ι, w) = rg Z d rx_m171 50 L S (rz_mk (rz_hs h a 13 v) ι, w) := rz_pR rfl c hv hz
theorem g171_50 : rg Z d rx_m171 50 [some (.ref a)] S (rz_mk h ι, w) = rg Z d rx_m171 51 [some (.ref a)] (.ref a :: S) (rz_mk h ι, w) := rz_s1 fun _ => rfl
theorem g171_51 : rg Z d rx_m171 51 L S (rz_mk h ι, w) = rg Z d rx_m171 53 L (.int 8 :: S) (rz_mk h ι, w) := rz_s1 fun _ => rfl
theorem g171_53 : rg Z d rx_m171 53 L S (rz_mk h ι, w) = rg Z d rx_m171 54 L (.int 3 :: S) (rz_mk h ι, w) := rz_s1 fun _ => rfl
theorem g171_54 : rg Z d rx_m171 54 L (.int 3 :: .int 8 :: S) (rz_mk h ι, w) = rg Z d rx_m171 58 L (.ref w.1 :: S) (rz_mk (rx_mnh h w.1 8 3) (rz_zs ι w.1 8), w.1 + 1 + 8, w.2 + 8 + 8 * 3) := rz_nwm rfl (by decide) (by decide) (by decide) (by decide)
theorem g171_58 (c : rz_fR h a 12 14) (hv : rz_isr v = true) (hz : Z.2.1 ≤ a) : rg Z d rx_m171 58 L (v :: .ref a :: S) (rz_mk h ι, w) = rg Z d rx_m171 61 L S (rz_mk (rz_hs h a 14 v) ι, w) := rz_pR rfl c hv hz
theorem g171_61 : rg Z d rx_m171 61 [some (.ref a)] S (rz_mk h ι, w) = rg Z d rx_m171 62 [some (.ref a)] (.ref a :: S) (rz_mk h ι, w) := rz_s1 fun _ => rfl
theorem g171_62 : rg Z d rx_m171 62 L S (rz_mk h ι, w) = rg Z d rx_m171 65 L (.int 160 :: S) (rz_mk h ι, w) := rz_s1 fun _ => rfl
theorem g171_65 : rg Z d rx_m171 65 L S (rz_mk h ι, w) = rg Z d rx_m171 66 L (.int 2 :: S) (rz_mk h ι, w) := rz_s1 fun _ => rfl
theorem g171_66 : rg Z d rx_m171 66 L (.int 2 :: .int 160 :: S) (rz_mk h ι, w) = rg Z d rx_m171 70 L (.ref w.1 :: S) (rz_mk (rx_mnh h w.1 160 2) (rz_zs ι w.1 160), w.1 + 1 + 160, w.2 + 160 + 160 * 2) := rz_nwm rfl (by decide) (by decide) (by decide) (by decide)
theorem g171_70 (c : rz_fR h a 12 17) (hv : rz_isr v = true) (hz : Z.2.1 ≤ a) : rg Z d rx_m171 70 L (v :: .ref a :: S) (rz_mk h ι, w) = rg Z d rx_m171 73 L S (rz_mk (rz_hs h a 17 v) ι, w) := rz_pR rfl c hv hz
theorem g171_73 : rg Z d rx_m171 73 [some (.ref a)] S (rz_mk h ι, w) = rg Z d rx_m171 74 [some (.ref a)] (.ref a :: S) (rz_mk h ι, w) := rz_s1 fun _ => rfl
theorem g171_74 : rg Z d rx_m171 74 L S (rz_mk h ι, w) = rg Z d rx_m171 77 L (.int 160 :: S) (rz_mk h ι, w) := rz_s1 fun _ => rfl
theorem g171_77 : rg Z d rx_m171 77 L S (rz_mk h ι, w) = rg Z d rx_m171 78 L (.int 2 :: S) (rz_mk h ι, w) := rz_s1 fun _ => rfl
theorem g171_78 : rg Z d rx_m171 78 L (.int 2 :: .int 160 :: S) (rz_mk h ι, w) = rg Z d rx_m171 82 L (.ref w.1 :: S) (rz_mk (rx_mnh h w.1 160 2) (rz_zs ι w.1 160), w.1 + 1 + 160, w.2 + 160 + 160 * 2) := rz_nwm rfl (by decide) (by decide) (by decide) (by decide)
theorem g171_82 (c : rz_fR h a 12 18) (hv : rz_isr v = true) (hz : Z.2.1 ≤ a) : rg Z d rx_m171 82 L (v :: .ref a :: S) (rz_mk h ι, w) = rg Z d rx_m171 85 L S (rz_mk (rz_hs h a 18 v) ι, w) := rz_pR rfl c hv hz
theorem g171_85 : rg Z d rx_m171 85 [some (.ref a)] S (rz_mk h ι, w) = rg Z d rx_m171 86 [some (.ref a)] (.ref a :: S) (rz_mk h ι, w) := rz_s1 fun _ => rfl
theorem g171_86 : rg Z d rx_m171 86 L S (rz_mk h ι, w) = rg Z d rx_m171 88 L (.int 8 :: S) (rz_mk h ι, w) := rz_s1 fun _ => rfl
theorem g171_88 : rg Z d rx_m171 88 L S (rz_mk h ι, w) = rg Z d rx_m171 89 L (.int 2 :: S) (rz_mk h ι, w) := rz_s1 fun _ => rfl
theorem g171_89 : rg Z d rx_m171 89 L (.int 2 :: .int 8 :: S) (rz_mk h ι, w) = rg Z d rx_m171 93 L (.ref w.1 :: S) (rz_mk (rx_mnh h w.1 8 2) (rz_zs ι w.1 8), w.1 + 1 + 8, w.2 + 8 + 8 * 2) := rz_nwm rfl (by decide) (by decide) (by decide) (by decide)
theorem g171_93 (c : rz_fR h a 12 19) (hv : rz_isr v = true) (hz : Z.2.1 ≤ a) : rg Z d rx_m171 93 L (v :: .ref a :: S) (rz_mk h ι, w) = rg Z d rx_m171 96 L S (rz_mk (rz_hs h a 19 v) ι, w) := rz_pR rfl c hv hz
theorem g171_96 : rg Z d rx_m171 96 [some (.ref a)] S (rz_mk h ι, w) = rg Z d rx_m171 97 [some (.ref a)] (.ref a :: S) (rz_mk h ι, w) := rz_s1 fun _ => rfl
theorem g171_97 : rg Z d rx_m171 97 L S (rz_mk h ι, w) = rg Z d rx_m171 99 L (.int 8 :: S) (rz_mk h ι, w) := rz_s1 fun _ => rfl
theorem g171_99 : rg Z d rx_m171 99 L S (rz_mk h ι, w) = rg Z d rx_m171 100 L (.int 2 :: S) (rz_mk h ι, w) := rz_s1 fun _ => rfl
theorem g171_100 : rg Z d rx_m171 100 L (.int 2 :: .int 8 :: S) (rz_mk h ι, w) = rg Z d rx_m171 104 L (.ref w.1 :: S) (rz_mk (rx_mnh h w.1 8 2) (rz_zs ι w.1 8), w.1 + 1 + 8, w.2 + 8 + 8 * 2) := rz_nwm rfl (by decide) (by decide) (by decide) (by decide)
theorem g171_104 (c : rz_fR h a 12 20) (hv : rz_isr v = true) (hz : Z.2.1 ≤ a) : rg Z d rx_m171 104 L (v :: .ref a :: S) (rz_mk h ι, w) = rg Z d rx_m171 107 L S (rz_mk (rz_hs h a 20 v) ι, w) := rz_pR rfl c hv hz
theorem g171_107 : rg Z d rx_m171 107 [some (.ref a)] S (rz_mk h ι, w) = rg Z d rx_m171 108 [some (.ref a)] (.ref a :: S) (rz_mk h ι, w) := rz_s1 fun _ => rfl
theorem g171_108 : rg Z d rx_m171 108 L S (rz_mk h ι, w) = rg Z d rx_m171 111 L (.int 160 :: S) (rz_mk h ι, w) := rz_s1 fun _ => rfl
theorem g171_111 : rg Z d rx_m171 111 L (.int 160 :: S) (rz_mk h ι, w) = rg Z d rx_m171 113 L (.ref w.1 :: S) (rz_mk (rx_up h w.1 (.inl (0, 160, fun _ => .int 0))) (rz_z ι w.1), w.1 + 1, w.2 + 160) := rz_nwa rfl (by decide) (by decide)
theorem g171_113 (c : rz_fR h a 12 21) (hv : rz_isr v = true) (hz : Z.2.1 ≤ a) : rg Z d rx_m171 113 L (v :: .ref a :: S) (rz_mk h ι, w) = rg Z d rx_m171 116 L S (rz_mk (rz_hs h a 21 v) ι, w) := rz_pR rfl c hv hz
theorem g171_116 : rg Z d rx_m171 116 [some (.ref a)] S (rz_mk h ι, w) = rg Z d rx_m171 117 [some (.ref a)] (.ref a :: S) (rz_mk h ι, w) := rz_s1 fun _ => rfl
theorem g171_117 : rg Z d rx_m171 117 L S (rz_mk h ι, w) = rg Z d rx_m171 119 L (.int 8 :: S) (rz_mk h ι, w) := rz_s1 fun _ => rfl
theorem g171_119 : rg Z d rx_m171 119 L (.int 8 :: S) (rz_mk h ι, w) = rg Z d rx_m171 121 L (.ref w.1 :: S) (rz_mk (rx_up h w.1 (.inl (0, 8, fun _ => .int 0))) (rz_z ι w.1), w.1 + 1, w.2 + 8) := rz_nwa rfl (by decide) (by decide)
theorem g171_121 (c : rz_fR h a 12 22) (hv : rz_isr v = true) (hz : Z.2.1 ≤ a) : rg Z d rx_m171 121 L (v :: .ref a :: S) (rz_mk h ι, w) = rg Z d rx_m171 124 L S (rz_mk (rz_hs h a 22 v) ι, w) := rz_pR rfl c hv hz
theorem g171_124 : rg Z d rx_m171 124 [some (.ref a)] S (rz_mk h ι, w) = rg Z d rx_m171 125 [some (.ref a)] (.ref a :: S) (rz_mk h ι, w) := rz_s1 fun _ => rfl
theorem g171_125 : rg Z d rx_m171 125 L S (rz_mk h ι, w) = rg Z d rx_m171 127 L (.int 80 :: S) (rz_mk h ι, w) := rz_s1 fun _ => rfl
theorem g171_127 : rg Z d rx_m171 127 L S (rz_mk h ι, w) = rg Z d rx_m171 128 L (.int 5 :: S) (rz_mk h ι, w) := rz_s1 fun _ => rfl
theorem g171_128 : rg Z d rx_m171 128 L (.int 5 :: .int 80 :: S) (rz_mk h ι, w) = rg Z d rx_m171 132 L (.ref w.1 :: S) (rz_mk (rx_mnh h w.1 80 5) (rz_zs ι w.1 80), w.1 + 1 + 80, w.2 + 80 + 80 * 5) := rz_nwm rfl (by decide) (by decide) (by decide) (by decide)
theorem g171_132 (c : rz_fR h a 12 23) (hv : rz_isr v = true) (hz : Z.2.1 ≤ a) : rg Z d rx_m171 132 L (v :: .ref a :: S) (rz_mk h ι, w) = rg Z d rx_m171 135 L S (rz_mk (rz_hs h a 23 v) ι, w) := rz_pR rfl c hv hz
theorem g171_135 : rg Z d rx_m171 135 [some (.ref a)] S (rz_mk h ι, w) = rg Z d rx_m171 136 [some (.ref a)] (.ref a :: S) (rz_mk h ι, w) := rz_s1 fun _ => rfl
theorem g171_136 : rg Z d rx_m171 136 L S (rz_mk h ι, w) = rg Z d rx_m171 138 L (.int 62 :: S) (rz_mk h ι, w) := rz_s1 fun _ => rfl
theorem g171_138 : rg Z d rx_m171 138 L (.int 62 :: S) (rz_mk h ι, w) = rg Z d rx_m171 140 L (.ref w.1 :: S) (rz_mk (rx_up h w.1 (.inl (0, 62, fun _ => .int 0))) (rz_z ι w.1), w.1 + 1, w.2 + 62) := rz_nwa rfl (by decide) (by decide)
theorem g171_140 (c : rz_fR h a 12 25) (hv : rz_isr v = true) (hz : Z.2.1 ≤ a) : rg Z d rx_m171 140 L (v :: .ref a :: S) (rz_mk h ι, w) = rg Z d rx_m171 143 L S (rz_mk (rz_hs h a 25 v) ι, w) := rz_pR rfl c hv hz
theorem g171_143 : rg Z d rx_m171 143 [some (.ref a)] S (rz_mk h ι, w) = rg Z d rx_m171 144 [some (.ref a)] (.ref a :: S) (rz_mk h ι, w) := rz_s1 fun _ => rfl
theorem g171_144 : rg Z d rx_m171 144 L S (rz_mk h ι, w) = rg Z d rx_m171 146 L (.int 62 :: S) (rz_mk h ι, w) := rz_s1 fun _ => rfl
theorem g171_146 : rg Z d rx_m171 146 L (.int 62 :: S) (rz_mk h ι, w) = rg Z d rx_m171 148 L (.ref w.1 :: S) (rz_mk (rx_up h w.1 (.inl (0, 62, fun _ => .int 0))) (rz_z ι w.1), w.1 + 1, w.2 + 62) := rz_nwa rfl (by decide) (by decide)
theorem g171_148 (c : rz_fR h a 12 26) (hv : rz_isr v = true) (hz : Z.2.1 ≤ a) : rg Z d rx_m171 148 L (v :: .ref a :: S) (rz_mk h ι, w) = rg Z d rx_m171 151 L S (rz_mk (rz_hs h a 26 v) ι, w) := rz_pR rfl c hv hz
theorem g171_151 : rg Z d rx_m171 151 [some (.ref a)] S (rz_mk h ι, w) = rg Z d rx_m171 152 [some (.ref a)] (.ref a :: S) (rz_mk h ι, w) := rz_s1 fun _ => rfl
theorem g171_152 : rg Z d rx_m171 152 L S (rz_mk h ι, w) = rg Z d rx_m171 154 L (.int 16 :: S) (rz_mk h ι, w) := rz_s1 fun _ => rfl
theorem g171_154 : rg Z d rx_m171 154 L S (rz_mk h ι, w) = rg Z d rx_m171 156 L (.int 62 :: S) (rz_mk h ι, w) := rz_s1 fun _ => rfl
theorem g171_156 : rg Z d rx_m171 156 L (.int 62 :: .int 16 :: S) (rz_mk h ι, w) = rg Z d rx_m171 160 L (.ref w.1 :: S) (rz_mk (rx_mnh h w.1 16 62) (rz_zs ι w.1 16), w.1 + 1 + 16, w.2 + 16 + 16 * 62) := rz_nwm rfl (by decide) (by decide) (by decide) (by decide)
theorem g171_160 (c : rz_fR h a 12 27) (hv : rz_isr v = true) (hz : Z.2.1 ≤ a) : rg Z d rx_m171 160 L (v :: .ref a :: S) (rz_mk h ι, w) = rg Z d rx_m171 163 L S (rz_mk (rz_hs h a 27 v) ι, w) := rz_pR rfl c hv hz
theorem g171_163 : rg Z d rx_m171 163 [some (.ref a)] S (rz_mk h ι, w) = rg Z d rx_m171 164 [some (.ref a)] (.ref a :: S) (rz_mk h ι, w) := rz_s1 fun _ => rfl
theorem g171_164 : rg Z d rx_m171 164 L S (rz_mk h ι, w) = rg Z d rx_m171 165 L (.int 3 :: S) (rz_mk h ι, w) := rz_s1 fun _ => rfl
theorem g171_165 : rg Z d rx_m171 165 L S (rz_mk h ι, w) = rg Z d rx_m171 168 L (.int 1055 :: S) (rz_mk h ι, w) := rz_s1 fun _ => rfl
theorem g171_168 : rg Z d rx_m171 168 L (.int 1055 :: .int 3 :: S) (rz_mk h ι, w) = rg Z d rx_m171 172 L (.ref w.1 :: S) (rz_mk (rx_mnh h w.1 3 1055) (rz_zs ι w.1 3), w.1 + 1 + 3, w.2 + 3 + 3 * 1055) := rz_nwm rfl (by decide) (by decide) (by decide) (by decide)
theorem g171_172 (c : rz_fR h a 12 28) (hv : rz_isr v = true) (hz : Z.2.1 ≤ a) : rg Z d rx_m171 172 L (v :: .ref a :: S) (rz_mk h ι, w) = rg Z d rx_m171 175 L S (rz_mk (rz_hs h a 28 v) ι, w) := rz_pR rfl c hv hz
theorem g171_175 : rg Z d rx_m171 175 [some (.ref a)] S (rz_mk h ι, w) = rg Z d rx_m171 176 [some (.ref a)] (.ref a :: S) (rz_mk h ι, w) := rz_s1 fun _ => rfl
theorem g171_176 : rg Z d rx_m171 176 L S (rz_mk h ι, w) = rg Z d rx_m171 178 L (.int 100 :: S) (rz_mk h ι, w) := rz_s1 fun _ => rfl
theorem g171_178 : rg Z d rx_m171 178 L (.int 100 :: S) (rz_mk h ι, w) = rg Z d rx_m171 180 L (.ref w.1 :: S) (rz_mk (rx_up h w.1 (.inl (0, 100, fun _ => .int 0))) (rz_z ι w.1), w.1 + 1, w.2 + 100) := rz_nwa rfl (by decide) (by decide)
theorem g171_180 (c : rz_fR h a 12 36) (hv : rz_isr v = true) (hz : Z.2.1 ≤ a) : rg Z d rx_m171 180 L (v :: .ref a :: S) (rz_mk h ι, w) = rg Z d rx_m171 183 L S (rz_mk (rz_hs h a 36 v) ι, w) := rz_pR rfl c hv hz
theorem g171_183 : rg Z d rx_m171 183 [some (.ref a)] S (rz_mk h ι, w) = rg Z d rx_m171 184 [some (.ref a)] (.ref a :: S) (rz_mk h ι, w) := rz_s1 fun _ => rfl
theorem g171_184 : rg Z d rx_m171 184 L S (rz_mk h ι, w) = rg Z d rx_m171 186 L (.int 8 :: S) (rz_mk h ι, w) := rz_s1 fun _ => rfl
theorem g171_186 : rg Z d rx_m171 186 L (.int 8 :: S) (rz_mk h ι, w) = rg Z d rx_m171 188 L (.ref w.1 :: S) (rz_mk (rx_up h w.1 (.inl (0, 8, fun _ => .int 0))) (rz_z ι w.1), w.1 + 1, w.2 + 8) := rz_nwa rfl (by decide) (by decide)
theorem g171_188 (c : rz_fR h a 12 37) (hv : rz_isr v = true) (hz : Z.2.1 ≤ a) : rg Z d rx_m171 188 L (v :: .ref a :: S) (rz_mk h ι, w) = rg Z d rx_m171 191 L S (rz_mk (rz_hs h a 37 v) ι, w) := rz_pR rfl c hv hz
theorem g171_191 : rg Z d rx_m171 191 [some (.ref a)] S (rz_mk h ι, w) = rg Z d rx_m171 192 [some (.ref a)] (.ref a :: S) (rz_mk h ι, w) := rz_s1 fun _ => rfl
theorem g171_192 : rg Z d rx_m171 192 L S (rz_mk h ι, w) = rg Z d rx_m171 194 L (.int 8 :: S) (rz_mk h ι, w) := rz_s1 fun _ => rfl
theorem g171_194 : rg Z d rx_m171 194 L (.int 8 :: S) (rz_mk h ι, w) = rg Z d rx_m171 196 L (.ref w.1 :: S) (rz_mk (rx_up h w.1 (.inl (0, 8, fun _ => .int 0))) (rz_z ι w.1), w.1 + 1, w.2 + 8) := rz_nwa rfl (by decide) (by decide)
theorem g171_196 (c : rz_fR h a 12 38) (hv : rz_isr v = true) (hz : Z.2.1 ≤ a) : rg Z d rx_m171 196 L (v :: .ref a :: S) (rz_mk h ι, w) = rg Z d rx_m171 199 L S (rz_mk (rz_hs h a 38 v) ι, w) := rz_pR rfl c hv hz
theorem g171_199 : rg Z d rx_m171 199 [some (.ref a)] S (rz_mk h ι, w) = rg Z d rx_m171 200 [some (.ref a)] (.ref a :: S) (rz_mk h ι, w) := rz_s1 fun _ => rfl
theorem g171_200 : rg Z d rx_m171 200 L S (rz_mk h ι, w) = rg Z d rx_m171 202 L (.int 8 :: S) (rz_mk h ι, w) := rz_s1 fun _ => rfl
theorem g171_202 : rg Z d rx_m171 202 L (.int 8 :: S) (rz_mk h ι, w) = rg Z d rx_m171 204 L (.ref w.1 :: S) (rz_mk (rx_up h w.1 (.inl (0, 8, fun _ => .int 0))) (rz_z ι w.1), w.1 + 1, w.2 + 8) := rz_nwa rfl (by decide) (by decide)
theorem g171_204 (c : rz_fR h a 12 40) (hv : rz_isr v = true) (hz : Z.2.1 ≤ a) : rg Z d rx_m171 204 L (v :: .ref a :: S) (rz_mk h ι, w) = rg Z d rx_m171 207 L S (rz_mk (rz_hs h a 40 v) ι, w) := rz_pR rfl c hv hz
theorem g171_207 : rg Z d rx_m171 207 [some (.ref a)] S (rz_mk h ι, w) = rg Z d rx_m171 208 [some (.ref a)] (.ref a :: S) (rz_mk h ι, w) := rz_s1 fun _ => rfl
theorem g171_208 : rg Z d rx_m171 208 L S (rz_mk h ι, w) = rg Z d rx_m171 210 L (.int 8 :: S) (rz_mk h ι, w) := rz_s1 fun _ => rfl
theorem g171_210 : rg Z d rx_m171 210 L (.int 8 :: S) (rz_mk h ι, w) = rg Z d rx_m171 212 L (.ref w.1 :: S) (rz_mk (rx_up h w.1 (.inl (0, 8, fun _ => .int 0))) (rz_z ι w.1), w.1 + 1, w.2 + 8) := rz_nwa rfl (by decide) (by decide)
theorem g171_212 (c : rz_fR h a 12 41) (hv : rz_isr v = true) (hz : Z.2.1 ≤ a) : rg Z d rx_m171 212 L (v :: .ref a :: S) (rz_mk h ι, w) = rg Z d rx_m171 215 L S (rz_mk (rz_hs h a 41 v) ι, w) := rz_pR rfl c hv hz
theorem g171_215 : rg Z d rx_m171 215 [some (.ref a)] S (rz_mk h ι, w) = rg Z d rx_m171 216 [some (.ref a)] (.ref a :: S) (rz_mk h ι, w) := rz_s1 fun _ => rfl
theorem g171_216 : rg Z d rx_m171 216 L S (rz_mk h ι, w) = rg Z d rx_m171 218 L (.int 14 :: S) (rz_mk h ι, w) := rz_s1 fun _ => rfl
theorem g171_218 : rg Z d rx_m171 218 L (.int 14 :: S) (rz_mk h ι, w) = rg Z d rx_m171 220 L (.ref w.1 :: S) (rz_mk (rx_up h w.1 (.inl (1, 14, fun _ => .long 0))) (rz_z ι w.1), w.1 + 1, w.2 + 14) := rz_nwl rfl (by decide) (by decide)
theorem g171_220 (c : rz_fR h a 12 43) (hv : rz_isr v = true) (hz : Z.2.1 ≤ a) : rg Z d rx_m171 220 L (v :: .ref a :: S) (rz_mk h ι, w) = rg Z d rx_m171 223 L S (rz_mk (rz_hs h a 43 v) ι, w) := rz_pR rfl c hv hz
theorem g171_223 : rg Z d rx_m171 223 [some (.ref a)] S (rz_mk h ι, w) = rg Z d rx_m171 224 [some (.ref a)] (.ref a :: S) (rz_mk h ι, w) := rz_s1 fun _ => rfl
theorem g171_224 (c : rz_oc h a 12) : rg Z d rx_m171 224 L (.ref a :: []) (rz_mk h ι, w) = rz_k true (rz_f Z d 172 [.ref a] (rz_mk h ι, w)) (fun v σ' => rg Z d rx_m171 227 L (v.toList ++ []) σ') := rz_cv (pc := 224) (n := 0) (mi := 172) (S := .ref a :: []) (rest := []) rfl rfl (Nat.le_of_ble_eq_true rfl) (Nat.le_of_ble_eq_true rfl) c
theorem g171_227 : rg Z d rx_m171 227 [some (.ref a)] S (rz_mk h ι, w) = rg Z d rx_m171 228 [some (.ref a)] (.ref a :: S) (rz_mk h ι, w) := rz_s1 fun _ => rfl
theorem g171_228 (c : rz_oc h a 12) : rg Z d rx_m171 228 L (.ref a :: []) (rz_mk h ι, w) = rz_k true (rz_f Z d 200 [.ref a] (rz_mk h ι, w)) (fun v σ' => rg Z d rx_m171 231 L (v.toList ++ []) σ') := rz_cv (pc := 228) (n := 0) (mi := 200) (S := .ref a :: []) (rest := []) rfl rfl (Nat.le_of_ble_eq_true rfl) (Nat.le_of_ble_eq_true rfl) c
theorem g171_231 : rg Z d rx_m171 231 L [] (rz_mk h ι, w) = some (.inl none, (rz_mk h ι, w)) := rz_r1 fun _ => rfl
theorem e171 : rz_f Z (d + 1) 171 [.ref t0] σ = rg Z d rx_m171 0 [some (.ref t0)] [] σ := rz_f_eq rfl (Nat.le_of_ble_eq_true rfl)
end RZG
