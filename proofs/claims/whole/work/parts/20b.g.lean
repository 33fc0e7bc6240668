/-! each instruction, one step (written by program) -/
section RZG
variable {Z : rx_Z} {d : Nat} {S : List Value} {L : rx_L} {σ : rx_S} {h : Nat → Option rx_E} {ι : Nat → Nat → Int32} {w : Nat × Nat} {a b t0 t1 t2 t3 t4 t5 t6 t7 t8 : Nat} {x y z s0 s1 s2 s3 s4 s5 s6 s7 s8 s9 s10 : Int32} {p q q0 q1 q2 q3 : Int64} {v v1 v2 v3 v4 v5 v6 v7 v8 v9 v10 : Value} {l0 l1 l2 l3 l4 l5 l6 l7 l8 l9 l10 l11 l12 l13 l14 : Option Value}
theorem g39_0 : rg Z d rx_m39 0 L S (rz_mk h ι, w) = rg Z d rx_m39 1 L (.int 0 :: S) (rz_mk h ι, w) := rz_s1 fun _ => rfl
theorem g39_1 : rg Z d rx_m39 1 [l0, l1, l2, some (.int z), l4, l5, l6] (.int x :: S) (rz_mk h ι, w) = rg Z d rx_m39 3 [l0, l1, l2, some (.int z), some (.int x), l5, l6] S (rz_mk h ι, w) := rz_s1 fun _ => rfl
theorem g39_3 : rg Z d rx_m39 3 [l0, l1, l2, l3, some (.int x), l5, l6] S (rz_mk h ι, w) = rg Z d rx_m39 5 [l0, l1, l2, l3, some (.int x), l5, l6] (.int x :: S) (rz_mk h ι, w) := rz_s1 fun _ => rfl
theorem g39_5 : rg Z d rx_m39 5 [some (.ref a), l1, l2, l3, l4, l5, l6] S (rz_mk h ι, w) = rg Z d rx_m39 6 [some (.ref a), l1, l2, l3, l4, l5, l6] (.ref a :: S) (rz_mk h ι, w) := rz_s1 fun _ => rfl
theorem g39_6 (c : rz_fR h a 4 0) : rg Z d rx_m39 6 L (.ref a :: S) (rz_mk h ι, w) = rg Z d rx_m39 9 L (rz_rv h a 0 :: S) (rz_mk h ι, w) := rz_gR rfl (by decide) c
theorem g39_9 (c : rz_ar h a 0) : rg Z d rx_m39 9 L (.ref a :: S) (rz_mk h ι, w) = rg Z d rx_m39 10 L (.int (Int32.ofNat (rz_ln h a)) :: S) (rz_mk h ι, w) := rz_alen (by decide) rfl c
theorem g39_10 : rg Z d rx_m39 10 L (.int y :: .int x :: S) (rz_mk h ι, w) = if x < y then rg Z d rx_m39 13 L S (rz_mk h ι, w) else rg Z d rx_m39 27 L S (rz_mk h ι, w) := rz_if2 (pc := 10) (t := 27) (off := 17) (cc := .ge) (by decide) rfl
theorem g39_13 : rg Z d rx_m39 13 [some (.ref a), l1, l2, l3, l4, l5, l6] S (rz_mk h ι, w) = rg Z d rx_m39 14 [some (.ref a), l1, l2, l3, l4, l5, l6] (.ref a :: S) (rz_mk h ι, w) := rz_s1 fun _ => rfl
theorem g39_14 (c : rz_fR h a 4 0) : rg Z d rx_m39 14 L (.ref a :: S) (rz_mk h ι, w) = rg Z d rx_m39 17 L (rz_rv h a 0 :: S) (rz_mk h ι, w) := rz_gR rfl (by decide) c
theorem g39_17 : rg Z d rx_m39 17 [l0, l1, l2, l3, some (.int x), l5, l6] S (rz_mk h ι, w) = rg Z d rx_m39 19 [l0, l1, l2, l3, some (.int x), l5, l6] (.int x :: S) (rz_mk h ι, w) := rz_s1 fun _ => rfl
theorem g39_19 : rg Z d rx_m39 19 L S (rz_mk h ι, w) = rg Z d rx_m39 20 L (.int 0 :: S) (rz_mk h ι, w) := rz_s1 fun _ => rfl
theorem g39_20 (c : rz_ar h a 0) (hi : rz_ix x (rz_ln h a)) (hz : Z.2.1 ≤ a) : rg Z d rx_m39 20 L (.int y :: .int x :: .ref a :: S) (rz_mk h ι, w) = rg Z d rx_m39 21 L S (rz_mk h (rz_up ι a x.toNatClampNeg y), w) := rz_iast rfl c hi hz
theorem g39_21 : rg Z d rx_m39 21 [l0, l1, l2, some (.int z), some (.int x), l5, l6] S (rz_mk h ι, w) = rg Z d rx_m39 24 [l0, l1, l2, some (.int z), some (.int (x + 1)), l5, l6] S (rz_mk h ι, w) := rz_s1 fun _ => rfl
theorem g39_24 : rg Z d rx_m39 24 L S (rz_mk h ι, w) = rg Z d rx_m39 3 L S (rz_mk h ι, w) := rz_s1 fun _ => rfl
theorem g39_27 : rg Z d rx_m39 27 L S (rz_mk h ι, w) = rg Z d rx_m39 28 L (.int 0 :: S) (rz_mk h ι, w) := rz_s1 fun _ => rfl
theorem g39_28 : rg Z d rx_m39 28 [l0, l1, l2, some (.int z), l4, l5, l6] (.int x :: S) (rz_mk h ι, w) = rg Z d rx_m39 30 [l0, l1, l2, some (.int z), some (.int x), l5, l6] S (rz_mk h ι, w) := rz_s1 fun _ => rfl
theorem g39_30 : rg Z d rx_m39 30 [l0, l1, some (.ref a), l3, l4, l5, l6] S (rz_mk h ι, w) = rg Z d rx_m39 31 [l0, l1, some (.ref a), l3, l4, l5, l6] (.ref a :: S) (rz_mk h ι, w) := rz_s1 fun _ => rfl
theorem g39_31 : rg Z d rx_m39 31 [l0, some (.ref a), l2, l3, l4, l5, l6] S (rz_mk h ι, w) = rg Z d rx_m39 32 [l0, some (.ref a), l2, l3, l4, l5, l6] (.ref a :: S) (rz_mk h ι, w) := rz_s1 fun _ => rfl
theorem g39_32 : rg Z d rx_m39 32 [l0, l1, l2, some (.int x), l4, l5, l6] S (rz_mk h ι, w) = rg Z d rx_m39 33 [l0, l1, l2, some (.int x), l4, l5, l6] (.int x :: S) (rz_mk h ι, w) := rz_s1 fun _ => rfl
theorem g39_33 (c : rz_oc h a 5) : rg Z d rx_m39 33 L (v2 :: v1 :: .ref a :: []) (rz_mk h ι, w) = rz_k true (rz_f Z d 45 [.ref a, v1, v2] (rz_mk h ι, w)) (fun v σ' => rg Z d rx_m39 36 L (v.toList ++ []) σ') := rz_cv (pc := 33) (n := 2) (mi := 45) (S := v2 :: v1 :: .ref a :: []) (rest := []) rfl rfl (Nat.le_of_ble_eq_true rfl) (Nat.le_of_ble_eq_true rfl) c
theorem g39_36 : rg Z d rx_m39 36 [some (.ref a), l1, l2, l3, l4, l5, l6] S (rz_mk h ι, w) = rg Z d rx_m39 37 [some (.ref a), l1, l2, l3, l4, l5, l6] (.ref a :: S) (rz_mk h ι, w) := rz_s1 fun _ => rfl
theorem g39_37 : rg Z d rx_m39 37 [l0, some (.ref a), l2, l3, l4, l5, l6] S (rz_mk h ι, w) = rg Z d rx_m39 38 [l0, some (.ref a), l2, l3, l4, l5, l6] (.ref a :: S) (rz_mk h ι, w) := rz_s1 fun _ => rfl
theorem g39_38 : rg Z d rx_m39 38 [l0, l1, l2, some (.int x), l4, l5, l6] S (rz_mk h ι, w) = rg Z d rx_m39 39 [l0, l1, l2, some (.int x), l4, l5, l6] (.int x :: S) (rz_mk h ι, w) := rz_s1 fun _ => rfl
theorem g39_39 (c : rz_oc h a 4) : rg Z d rx_m39 39 L (v2 :: v1 :: .ref a :: []) (rz_mk h ι, w) = rz_k true (rz_f Z d 34 [.ref a, v1, v2] (rz_mk h ι, w)) (fun v σ' => rg Z d rx_m39 42 L (v.toList ++ []) σ') := rz_cv (pc := 39) (n := 2) (mi := 34) (S := v2 :: v1 :: .ref a :: []) (rest := []) rfl rfl (Nat.le_of_ble_eq_true rfl) (Nat.le_of_ble_eq_true rfl) c
theorem g39_42 : rg Z d rx_m39 42 L S (rz_mk h ι, w) = rg Z d rx_m39 43 L (.int 0 :: S) (rz_mk h ι, w) := rz_s1 fun _ => rfl
theorem g39_43 : rg Z d rx_m39 43 [l0, l1, l2, l3, some (.int z), l5, l6] (.int x :: S) (rz_mk h ι, w) = rg Z d rx_m39 45 [l0, l1, l2, l3, some (.int z), some (.int x), l6] S (rz_mk h ι, w) := rz_s1 fun _ => rfl
theorem g39_45 : rg Z d rx_m39 45 [l0, l1, l2, l3, l4, some (.int x), l6] S (rz_mk h ι, w) = rg Z d rx_m39 47 [l0, l1, l2, l3, l4, some (.int x), l6] (.int x :: S) (rz_mk h ι, w) := rz_s1 fun _ => rfl
theorem g39_47 : rg Z d rx_m39 47 [some (.ref a), l1, l2, l3, l4, l5, l6] S (rz_mk h ι, w) = rg Z d rx_m39 48 [some (.ref a), l1, l2, l3, l4, l5, l6] (.ref a :: S) (rz_mk h ι, w) := rz_s1 fun _ => rfl
theorem g39_48 (c : rz_fI h a 4 3) : rg Z d rx_m39 48 L (.ref a :: S) (rz_mk h ι, w) = rg Z d rx_m39 51 L (.int (ι a 3) :: S) (rz_mk h ι, w) := rz_gI rfl (by decide) c
theorem g39_51 : rg Z d rx_m39 51 L (.int y :: .int x :: S) (rz_mk h ι, w) = if x < y then rg Z d rx_m39 54 L S (rz_mk h ι, w) else rg Z d rx_m39 124 L S (rz_mk h ι, w) := rz_if2 (pc := 51) (t := 124) (off := 73) (cc := .ge) (by decide) rfl
theorem g39_54 : rg Z d rx_m39 54 [l0, l1, l2, l3, l4, some (.int x), l6] S (rz_mk h ι, w) = rg Z d rx_m39 56 [l0, l1, l2, l3, l4, some (.int x), l6] (.int x :: S) (rz_mk h ι, w) := rz_s1 fun _ => rfl
theorem g39_56 : rg Z d rx_m39 56 [some (.ref a), l1, l2, l3, l4, l5, l6] S (rz_mk h ι, w) = rg Z d rx_m39 57 [some (.ref a), l1, l2, l3, l4, l5, l6] (.ref a :: S) (rz_mk h ι, w) := rz_s1 fun _ => rfl
theorem g39_57 (c : rz_fR h a 4 2) : rg Z d rx_m39 57 L (.ref a :: S) (rz_mk h ι, w) = rg Z d rx_m39 60 L (rz_rv h a 2 :: S) (rz_mk h ι, w) := rz_gR rfl (by decide) c
theorem g39_60 (c : rz_ar h a 0) : rg Z d rx_m39 60 L (.ref a :: S) (rz_mk h ι, w) = rg Z d rx_m39 61 L (.int (Int32.ofNat (rz_ln h a)) :: S) (rz_mk h ι, w) := rz_alen (by decide) rfl c
theorem g39_61 : rg Z d rx_m39 61 L (.int y :: .int x :: S) (rz_mk h ι, w) = if x < y then rg Z d rx_m39 64 L S (rz_mk h ι, w) else rg Z d rx_m39 124 L S (rz_mk h ι, w) := rz_if2 (pc := 61) (t := 124) (off := 63) (cc := .ge) (by decide) rfl
theorem g39_64 : rg Z d rx_m39 64 [some (.ref a), l1, l2, l3, l4, l5, l6] S (rz_mk h ι, w) = rg Z d rx_m39 65 [some (.ref a), l1, l2, l3, l4, l5, l6] (.ref a :: S) (rz_mk h ι, w) := rz_s1 fun _ => rfl
theorem g39_65 : rg Z d rx_m39 65 [l0, l1, some (.ref a), l3, l4, l5, l6] S (rz_mk h ι, w) = rg Z d rx_m39 66 [l0, l1, some (.ref a), l3, l4, l5, l6] (.ref a :: S) (rz_mk h ι, w) := rz_s1 fun _ => rfl
theorem g39_66 : rg Z d rx_m39 66 [some (.ref a), l1, l2, l3, l4, l5, l6] S (rz_mk h ι, w) = rg Z d rx_m39 67 [some (.ref a), l1, l2, l3, l4, l5, l6] (.ref a :: S) (rz_mk h ι, w) := rz_s1 fun _ => rfl
theorem g39_67 (c : rz_fR h a 4 2) : rg Z d rx_m39 67 L (.ref a :: S) (rz_mk h ι, w) = rg Z d rx_m39 70 L (rz_rv h a 2 :: S) (rz_mk h ι, w) := rz_gR rfl (by decide) c
theorem g39_70 : rg Z d rx_m39 70 [l0, l1, l2, l3, l4, some (.int x), l6] S (rz_mk h ι, w) = rg Z d rx_m39 72 [l0, l1, l2, l3, l4, some (.int x), l6] (.int x :: S) (rz_mk h ι, w) := rz_s1 fun _ => rfl
theorem g39_72 (c : rz_ar h a 0) (hi : rz_ix x (rz_ln h a)) : rg Z d rx_m39 72 L (.int x :: .ref a :: S) (rz_mk h ι, w) = rg Z d rx_m39 73 L (.int (ι a x.toNatClampNeg) :: S) (rz_mk h ι, w) := rz_iald rfl c hi
theorem g39_73 (c : rz_oc h a 4) : rg Z d rx_m39 73 L (v2 :: v1 :: .ref a :: []) (rz_mk h ι, w) = rz_k true (rz_f Z d 35 [.ref a, v1, v2] (rz_mk h ι, w)) (fun v σ' => rg Z d rx_m39 76 L (v.toList ++ []) σ') := rz_cv (pc := 73) (n := 2) (mi := 35) (S := v2 :: v1 :: .ref a :: []) (rest := []) rfl rfl (Nat.le_of_ble_eq_true rfl) (Nat.le_of_ble_eq_true rfl) c
theorem g39_76 : rg Z d rx_m39 76 [l0, l1, l2, l3, l4, some (.int z), l6] (.int x :: S) (rz_mk h ι, w) = rg Z d rx_m39 78 [l0, l1, l2, l3, l4, some (.int z), some (.int x)] S (rz_mk h ι, w) := rz_s1 fun _ => rfl
theorem g39_78 : rg Z d rx_m39 78 [l0, l1, l2, l3, l4, l5, some (.int x)] S (rz_mk h ι, w) = rg Z d rx_m39 80 [l0, l1, l2, l3, l4, l5, some (.int x)] (.int x :: S) (rz_mk h ι, w) := rz_s1 fun _ => rfl
theorem g39_80 : rg Z d rx_m39 80 L (.int x :: S) (rz_mk h ι, w) = if x < 0 then rg Z d rx_m39 118 L S (rz_mk h ι, w) else rg Z d rx_m39 83 L S (rz_mk h ι, w) := rz_if1 (pc := 80) (t := 118) (off := 38) (cc := .lt) (by decide) rfl
theorem g39_83 : rg Z d rx_m39 83 [l0, l1, l2, l3, l4, l5, some (.int x)] S (rz_mk h ι, w) = rg Z d rx_m39 85 [l0, l1, l2, l3, l4, l5, some (.int x)] (.int x :: S) (rz_mk h ι, w) := rz_s1 fun _ => rfl
theorem g39_85 : rg Z d rx_m39 85 [some (.ref a), l1, l2, l3, l4, l5, l6] S (rz_mk h ι, w) = rg Z d rx_m39 86 [some (.ref a), l1, l2, l3, l4, l5, l6] (.ref a :: S) (rz_mk h ι, w) := rz_s1 fun _ => rfl
theorem g39_86 (c : rz_fR h a 4 0) : rg Z d rx_m39 86 L (.ref a :: S) (rz_mk h ι, w) = rg Z d rx_m39 89 L (rz_rv h a 0 :: S) (rz_mk h ι, w) := rz_gR rfl (by decide) c
theorem g39_89 (c : rz_ar h a 0) : rg Z d rx_m39 89 L (.ref a :: S) (rz_mk h ι, w) = rg Z d rx_m39 90 L (.int (Int32.ofNat (rz_ln h a)) :: S) (rz_mk h ι, w) := rz_alen (by decide) rfl c
theorem g39_90 : rg Z d rx_m39 90 L (.int y :: .int x :: S) (rz_mk h ι, w) = if x < y then rg Z d rx_m39 93 L S (rz_mk h ι, w) else rg Z d rx_m39 118 L S (rz_mk h ι, w) := rz_if2 (pc := 90) (t := 118) (off := 28) (cc := .ge) (by decide) rfl
theorem g39_93 : rg Z d rx_m39 93 [some (.ref a), l1, l2, l3, l4, l5, l6] S (rz_mk h ι, w) = rg Z d rx_m39 94 [some (.ref a), l1, l2, l3, l4, l5, l6] (.ref a :: S) (rz_mk h ι, w) := rz_s1 fun _ => rfl
theorem g39_94 (c : rz_fR h a 4 0) : rg Z d rx_m39 94 L (.ref a :: S) (rz_mk h ι, w) = rg Z d rx_m39 97 L (rz_rv h a 0 :: S) (rz_mk h ι, w) := rz_gR rfl (by decide) c
theorem g39_97 : rg Z d rx_m39 97 [l0, l1, l2, l3, l4, l5, some (.int x)] S (rz_mk h ι, w) = rg Z d rx_m39 99 [l0, l1, l2, l3, l4, l5, some (.int x)] (.int x :: S) (rz_mk h ι, w) := rz_s1 fun _ => rfl
theorem g39_99 : rg Z d rx_m39 99 L (.int x :: .ref b :: S) (rz_mk h ι, w) = rg Z d rx_m39 100 L (.int x :: .ref b :: .int x :: .ref b :: S) (rz_mk h ι, w) := rz_s1 fun _ => rfl
theorem g39_100 (c : rz_ar h a 0) (hi : rz_ix x (rz_ln h a)) : rg Z d rx_m39 100 L (.int x :: .ref a :: S) (rz_mk h ι, w) = rg Z d rx_m39 101 L (.int (ι a x.toNatClampNeg) :: S) (rz_mk h ι, w) := rz_iald rfl c hi
theorem g39_101 : rg Z d rx_m39 101 L S (rz_mk h ι, w) = rg Z d rx_m39 102 L (.int 1 :: S) (rz_mk h ι, w) := rz_s1 fun _ => rfl
theorem g39_102 : rg Z d rx_m39 102 L (.int y :: .int x :: S) (rz_mk h ι, w) = rg Z d rx_m39 103 L (.int (x + y) :: S) (rz_mk h ι, w) := rz_s1 fun _ => rfl
theorem g39_103 (c : rz_ar h a 0) (hi : rz_ix x (rz_ln h a)) (hz : Z.2.1 ≤ a) : rg Z d rx_m39 103 L (.int y :: .int x :: .ref a :: S) (rz_mk h ι, w) = rg Z d rx_m39 104 L S (rz_mk h (rz_up ι a x.toNatClampNeg y), w) := rz_iast rfl c hi hz
theorem g39_104 : rg Z d rx_m39 104 [l0, l1, l2, l3, some (.int x), l5, l6] S (rz_mk h ι, w) = rg Z d rx_m39 106 [l0, l1, l2, l3, some (.int x), l5, l6] (.int x :: S) (rz_mk h ι, w) := rz_s1 fun _ => rfl
theorem g39_106 : rg Z d rx_m39 106 [some (.ref a), l1, l2, l3, l4, l5, l6] S (rz_mk h ι, w) = rg Z d rx_m39 107 [some (.ref a), l1, l2, l3, l4, l5, l6] (.ref a :: S) (rz_mk h ι, w) := rz_s1 fun _ => rfl
theorem g39_107 (c : rz_fR h a 4 0) : rg Z d rx_m39 107 L (.ref a :: S) (rz_mk h ι, w) = rg Z d rx_m39 110 L (rz_rv h a 0 :: S) (rz_mk h ι, w) := rz_gR rfl (by decide) c
theorem g39_110 : rg Z d rx_m39 110 [l0, l1, l2, l3, l4, l5, some (.int x)] S (rz_mk h ι, w) = rg Z d rx_m39 112 [l0, l1, l2, l3, l4, l5, some (.int x)] (.int x :: S) (rz_mk h ι, w) := rz_s1 fun _ => rfl
theorem g39_112 (c : rz_ar h a 0) (hi : rz_ix x (rz_ln h a)) : rg Z d rx_m39 112 L (.int x :: .ref a :: S) (rz_mk h ι, w) = rg Z d rx_m39 113 L (.int (ι a x.toNatClampNeg) :: S) (rz_mk h ι, w) := rz_iald rfl c hi
theorem g39_113 : rg Z d rx_m39 113 L (.int y :: .int x :: []) (rz_mk h ι, w) = rg Z d rx_m39 116 L (.int (if x < y then y else x) :: []) (rz_mk h ι, w) := rz_max rfl (Nat.le_of_ble_eq_true rfl)
theorem g39_116 : rg Z d rx_m39 116 [l0, l1, l2, some (.int z), l4, l5, l6] (.int x :: S) (rz_mk h ι, w) = rg Z d rx_m39 118 [l0, l1, l2, some (.int z), some (.int x), l5, l6] S (rz_mk h ι, w) := rz_s1 fun _ => rfl
theorem g39_118 : rg Z d rx_m39 118 [l0, l1, l2, l3, some (.int z), some (.int x), l6] S (rz_mk h ι, w) = rg Z d rx_m39 121 [l0, l1, l2, l3, some (.int z), some (.int (x + 1)), l6] S (rz_mk h ι, w) := rz_s1 fun _ => rfl
theorem g39_121 : rg Z d rx_m39 121 L S (rz_mk h ι, w) = rg Z d rx_m39 45 L S (rz_mk h ι, w) := rz_s1 fun _ => rfl
theorem g39_124 : rg Z d rx_m39 124 [l0, l1, l2, l3, some (.int x), l5, l6] S (rz_mk h ι, w) = rg Z d rx_m39 126 [l0, l1, l2, l3, some (.int x), l5, l6] (.int x :: S) (rz_mk h ι, w) := rz_s1 fun _ => rfl
theorem g39_126 : rg Z d rx_m39 126 L [.int x] (rz_mk h ι, w) = some (.inl (some (.int x)), (rz_mk h ι, w)) := rz_reti rfl rfl rfl
theorem e39 : rz_f Z (d + 1) 39 [.ref t0, .ref t1, .ref t2, .int s3] σ = rg Z d rx_m39 0 [some (.ref t0), some (.ref t1), some (.ref t2), some (.int s3), none, none, none] [] σ := rz_f_eq rfl (Nat.le_of_ble_eq_true rfl)
theorem g40_0 : rg Z d rx_m40 0 [some (.ref a)] S (rz_mk h ι, w) = rg Z d rx_m40 1 [some (.ref a)] (.ref a :: S) (rz_mk h ι, w) := rz_s1 fun _ => rfl
theorem g40_1 : rg Z d rx_m40 1 L (.ref a :: []) (rz_mk h ι, w) = rg Z d rx_m40 4 L [] (rz_mk h ι, w) := rz_oi rfl (Nat.le_of_ble_eq_true rfl)
theorem g40_4 : rg Z d rx_m40 4 [some (.ref a)] S (rz_mk h ι, w) = rg Z d rx_m40 5 [some (.ref a)] (.ref a :: S) (rz_mk h ι, w) := rz_s1 fun _ => rfl
theorem g40_5 : rg Z d rx_m40 5 L S (rz_mk h ι, w) = rg Z d rx_m40 8 L (.int 150 :: S) (rz_mk h ι, w) := rz_s1 fun _ => rfl
theorem g40_8 : rg Z d rx_m40 8 L (.int 150 :: S) (rz_mk h ι, w) = rg Z d rx_m40 10 L (.ref w.1 :: S) (rz_mk (rx_up h w.1 (.inl (0, 150, fun _ => .int 0))) (rz_z ι w.1), w.1 + 1, w.2 + 150) := rz_nwa rfl (by decide) (by decide)
theorem g40_10 (c : rz_fR h a 5 0) (hv : rz_isr v = true) (hz : Z.2.1 ≤ a) : rg Z d rx_m40 10 L (v :: .ref a :: S) (rz_mk h ι, w) = rg Z d rx_m40 13 L S (rz_mk (rz_hs h a 0 v) ι, w) := rz_pR rfl c hv hz
theorem g40_13 : rg Z d rx_m40 13 [some (.ref a)] S (rz_mk h ι, w) = rg Z d rx_m40 14 [some (.ref a)] (.ref a :: S) (rz_mk h ι, w) := rz_s1 fun _ => rfl
theorem g40_14 : rg Z d rx_m40 14 L S (rz_mk h ι, w) = rg Z d rx_m40 16 L (.int 21 :: S) (rz_mk h ι, w) := rz_s1 fun _ => rfl
theorem g40_16 : rg Z d rx_m40 16 L (.int 21 :: S) (rz_mk h ι, w) = rg Z d rx_m40 18 L (.ref w.1 :: S) (rz_mk (rx_up h w.1 (.inl (0, 21, fun _ => .int 0))) (rz_z ι w.1), w.1 + 1, w.2 + 21) := rz_nwa rfl (by decide) (by decide)
theorem g40_18 (c : rz_fR h a 5 1) (hv : rz_isr v = true) (hz : Z.2.1 ≤ a) : rg Z d rx_m40 18 L (v :: .ref a :: S) (rz_mk h ι, w) = rg Z d rx_m40 21 L S (rz_mk (rz_hs h a 1 v) ι, w) := rz_pR rfl c hv hz
theorem g40_21 : rg Z d rx_m40 21 [some (.ref a)] S (rz_mk h ι, w) = rg Z d rx_m40 22 [some (.ref a)] (.ref a :: S) (rz_mk h ι, w) := rz_s1 fun _ => rfl
theorem g40_22 : rg Z d rx_m40 22 L S (rz_mk h ι, w) = rg Z d rx_m40 24 L (.int 8 :: S) (rz_mk h ι, w) := rz_s1 fun _ => rfl
theorem g40_24 : rg Z d rx_m40 24 L (.int 8 :: S) (rz_mk h ι, w) = rg Z d rx_m40 26 L (.ref w.1 :: S) (rz_mk (rx_up h w.1 (.inl (0, 8, fun _ => .int 0))) (rz_z ι w.1), w.1 + 1, w.2 + 8) := rz_nwa rfl (by decide) (by decide)
theorem g40_26 (c : rz_fR h a 5 2) (hv : rz_isr v = true) (hz : Z.2.1 ≤ a) : rg Z d rx_m40 26 L (v :: .ref a :: S) (rz_mk h ι, w) = rg Z d rx_m40 29 L S (rz_mk (rz_hs h a 2 v) ι, w) := rz_pR rfl c hv hz
theorem g40_29 : rg Z d rx_m40 29 [some (.ref a)] S (rz_mk h ι, w) = rg Z d rx_m40 30 [some (.ref a)] (.ref a :: S) (rz_mk h ι, w) := rz_s1 fun _ => rfl
theorem g40_30 : rg Z d rx_m40 30 L S (rz_mk h ι, w) = rg Z d rx_m40 31 L (.int 0 :: S) (rz_mk h ι, w) := rz_s1 fun _ => rfl
theorem g40_31 (c : rz_fI h a 5 3) (hz : Z.2.1 ≤ a) : rg Z d rx_m40 31 L (.int x :: .ref a :: S) (rz_mk h ι, w) = rg Z d rx_m40 34 L S (rz_mk h (rz_up ι a 3 x), w) := rz_pI rfl c hz
theorem g40_34 : rg Z d rx_m40 34 [some (.ref a)] S (rz_mk h ι, w) = rg Z d rx_m40 35 [some (.ref a)] (.ref a :: S) (rz_mk h ι, w) := rz_s1 fun _ => rfl
theorem g40_35 (c : rz_oc h a 5) : rg Z d rx_m40 35 L (.ref a :: []) (rz_mk h ι, w) = rz_k true (rz_f Z d 41 [.ref a] (rz_mk h ι, w)) (fun v σ' => rg Z d rx_m40 38 L (v.toList ++ []) σ') := rz_cv (pc := 35) (n := 0) (mi := 41) (S := .ref a :: []) (rest := []) rfl rfl (Nat.le_of_ble_eq_true rfl) (Nat.le_of_ble_eq_true rfl) c
theorem g40_38 : rg Z d rx_m40 38 L [] (rz_mk h ι, w) = some (.inl none, (rz_mk h ι, w)) := rz_r1 fun _ => rfl
theorem e40 : rz_f Z (d + 1) 40 [.ref t0] σ = rg Z d rx_m40 0 [some (.ref t0)] [] σ := rz_f_eq rfl (Nat.le_of_ble_eq_true rfl)
theorem g41_0 : rg Z d rx_m41 0 L S (rz_mk h ι, w) = rg Z d rx_m41 3 L (.ref (Z.2.2.2 0) :: S) (rz_mk h ι, w) := rz_s1 fun _ => rfl
theorem g41_3 : rg Z d rx_m41 3 L S (rz_mk h ι, w) = rg Z d rx_m41 4 L (.int 0 :: S) (rz_mk h ι, w) := rz_s1 fun _ => rfl
theorem g41_4 : rg Z d rx_m41 4 [some (.ref a)] S (rz_mk h ι, w) = rg Z d rx_m41 5 [some (.ref a)] (.ref a :: S) (rz_mk h ι, w) := rz_s1 fun _ => rfl
theorem g41_5 (c : rz_fR h a 5 0) : rg Z d rx_m41 5 L (.ref a :: S) (rz_mk h ι, w) = rg Z d rx_m41 8 L (rz_rv h a 0 :: S) (rz_mk h ι, w) := rz_gR rfl (by decide) c
theorem g41_8 : rg Z d rx_m41 8 L S (rz_mk h ι, w) = rg Z d rx_m41 9 L (.int 0 :: S) (rz_mk h ι, w) := rz_s1 fun _ => rfl
theorem g41_9 : rg Z d rx_m41 9 L S (rz_mk h ι, w) = rg Z d rx_m41 12 L (.ref (Z.2.2.2 0) :: S) (rz_mk h ι, w) := rz_s1 fun _ => rfl
theorem g41_12 (c : rz_ar h a 0) : rg Z d rx_m41 12 L (.ref a :: S) (rz_mk h ι, w) = rg Z d rx_m41 13 L (.int (Int32.ofNat (rz_ln h a)) :: S) (rz_mk h ι, w) := rz_alen (by decide) rfl c
theorem g41_13 (ha : rz_ar h a 0) (hb : rz_ar h b 0) (hz : Z.2.1 ≤ b) (h1 : ¬ z < 0) (h2 : ¬ y < 0) (h3 : ¬ x < 0) (h4 : z.toNatClampNeg + x.toNatClampNeg ≤ rz_ln h a) (h5 : y.toNatClampNeg + x.toNatClampNeg ≤ rz_ln h b) : rg Z d rx_m41 13 L (.int x :: .int y :: .ref b :: .int z :: .ref a :: []) (rz_mk h ι, w) = rg Z d rx_m41 16 L [] (rz_mk h (rz_cp ι a b z.toNatClampNeg y.toNatClampNeg x.toNatClampNeg), w) := rz_acp rfl (Nat.le_of_ble_eq_true rfl) ha hb hz h1 h2 h3 h4 h5
theorem g41_16 : rg Z d rx_m41 16 [some (.ref a)] S (rz_mk h ι, w) = rg Z d rx_m41 17 [some (.ref a)] (.ref a :: S) (rz_mk h ι, w) := rz_s1 fun _ => rfl
theorem g41_17 : rg Z d rx_m41 17 L S (rz_mk h ι, w) = rg Z d rx_m41 20 L (.ref (Z.2.2.2 0) :: S) (rz_mk h ι, w) := rz_s1 fun _ => rfl
theorem g41_20 (c : rz_ar h a 0) : rg Z d rx_m41 20 L (.ref a :: S) (rz_mk h ι, w) = rg Z d rx_m41 21 L (.int (Int32.ofNat (rz_ln h a)) :: S) (rz_mk h ι, w) := rz_alen (by decide) rfl c
theorem g41_21 (c : rz_fI h a 5 3) (hz : Z.2.1 ≤ a) : rg Z d rx_m41 21 L (.int x :: .ref a :: S) (rz_mk h ι, w) = rg Z d rx_m41 24 L S (rz_mk h (rz_up ι a 3 x), w) := rz_pI rfl c hz
theorem g41_24 : rg Z d rx_m41 24 L [] (rz_mk h ι, w) = some (.inl none, (rz_mk h ι, w)) := rz_r1 fun _ => rfl
theorem e41 : rz_f Z (d + 1) 41 [.ref t0] σ = rg Z d rx_m41 0 [some (.ref t0)] [] σ := rz_f_eq rfl (Nat.le_of_ble_eq_true rfl)
theorem g42_0 : rg Z d rx_m42 0 [some (.ref a)] S (rz_mk h ι, w) = rg Z d rx_m42 1 [some (.ref a)] (.ref a :: S) (rz_mk h ι, w) := rz_s1 fun _ => rfl
theorem g42_1 : rg Z d rx_m42 1 L S (rz_mk h ι, w) = rg Z d rx_m42 2 L (.int 0 :: S) (rz_mk h ι, w) := rz_s1 fun _ => rfl
theorem g42_2 (c : rz_fI h a 5 3) (hz : Z.2.1 ≤ a) : rg Z d rx_m42 2 L (.int x :: .ref a :: S) (rz_mk h ι, w) = rg Z d rx_m42 5 L S (rz_mk h (rz_up ι a 3 x), w) := rz_pI rfl c hz
theorem g42_5 : rg Z d rx_m42 5 L [] (rz_mk h ι, w) = some (.inl none, (rz_mk h ι, w)) := rz_r1 fun _ => rfl
theorem e42 : rz_f Z (d + 1) 42 [.ref t0] σ = rg Z d rx_m42 0 [some (.ref t0)] [] σ := rz_f_eq rfl (Nat.le_of_ble_eq_true rfl)
theorem g43_0 : rg Z d rx_m43 0 [some (.ref a), l1] S (rz_mk h ι, w) = rg Z d rx_m43 1 [some (.ref a), l1] (.ref a :: S) (rz_mk h ι, w) := rz_s1 fun _ => rfl
theorem g43_1 (c : rz_fI h a 5 3) : rg Z d rx_m43 1 L (.ref a :: S) (rz_mk h ι, w) = rg Z d rx_m43 4 L (.int (ι a 3) :: S) (rz_mk h ι, w) := rz_gI rfl (by decide) c
theorem g43_4 : rg Z d rx_m43 4 [some (.ref a), l1] S (rz_mk h ι, w) = rg Z d rx_m43 5 [some (.ref a), l1] (.ref a :: S) (rz_mk h ι, w) := rz_s1 fun _ => rfl
theorem g43_5 (c : rz_fR h a 5 0) : rg Z d rx_m43 5 L (.ref a :: S) (rz_mk h ι, w) = rg Z d rx_m43 8 L (rz_rv h a 0 :: S) (rz_mk h ι, w) := rz_gR rfl (by decide) c
theorem g43_8 (c : rz_ar h a 0) : rg Z d rx_m43 8 L (.ref a :: S) (rz_mk h ι, w) = rg Z d rx_m43 9 L (.int (Int32.ofNat (rz_ln h a)) :: S) (rz_mk h ι, w) := rz_alen (by decide) rfl c
theorem g43_9 : rg Z d rx_m43 9 L (.int y :: .int x :: S) (rz_mk h ι, w) = if x < y then rg Z d rx_m43 12 L S (rz_mk h ι, w) else rg Z d rx_m43 32 L S (rz_mk h ι, w) := rz_if2 (pc := 9) (t := 32) (off := 23) (cc := .ge) (by decide) rfl
theorem g43_12 : rg Z d rx_m43 12 [some (.ref a), l1] S (rz_mk h ι, w) = rg Z d rx_m43 13 [some (.ref a), l1] (.ref a :: S) (rz_mk h ι, w) := rz_s1 fun _ => rfl
theorem g43_13 (c : rz_fR h a 5 0) : rg Z d rx_m43 13 L (.ref a :: S) (rz_mk h ι, w) = rg Z d rx_m43 16 L (rz_rv h a 0 :: S) (rz_mk h ι, w) := rz_gR rfl (by decide) c
theorem g43_16 : rg Z d rx_m43 16 [some (.ref a), l1] S (rz_mk h ι, w) = rg Z d rx_m43 17 [some (.ref a), l1] (.ref a :: S) (rz_mk h ι, w) := rz_s1 fun _ => rfl
theorem g43_17 (c : rz_fI h a 5 3) : rg Z d rx_m43 17 L (.ref a :: S) (rz_mk h ι, w) = rg Z d rx_m43 20 L (.int (ι a 3) :: S) (rz_mk h ι, w) := rz_gI rfl (by decide) c
theorem g43_20 : rg Z d rx_m43 20 [l0, some (.int x)] S (rz_mk h ι, w) = rg Z d rx_m43 21 [l0, some (.int x)] (.int x :: S) (rz_mk h ι, w) := rz_s1 fun _ => rfl
theorem g43_21 (c : rz_ar h a 0) (hi : rz_ix x (rz_ln h a)) (hz : Z.2.1 ≤ a) : rg Z d rx_m43 21 L (.int y :: .int x :: .ref a :: S) (rz_mk h ι, w) = rg Z d rx_m43 22 L S (rz_mk h (rz_up ι a x.toNatClampNeg y), w) := rz_iast rfl c hi hz
theorem g43_22 : rg Z d rx_m43 22 [some (.ref a), l1] S (rz_mk h ι, w) = rg Z d rx_m43 23 [some (.ref a), l1] (.ref a :: S) (rz_mk h ι, w) := rz_s1 fun _ => rfl
theorem g43_23 : rg Z d rx_m43 23 L (.ref a :: S) (rz_mk h ι, w) = rg Z d rx_m43 24 L (.ref a :: .ref a :: S) (rz_mk h ι, w) := rz_s1 fun _ => rfl
theorem g43_24 (c : rz_fI h a 5 3) : rg Z d rx_m43 24 L (.ref a :: S) (rz_mk h ι, w) = rg Z d rx_m43 27 L (.int (ι a 3) :: S) (rz_mk h ι, w) := rz_gI rfl (by decide) c
theorem g43_27 : rg Z d rx_m43 27 L S (rz_mk h ι, w) = rg Z d rx_m43 28 L (.int 1 :: S) (rz_mk h ι, w) := rz_s1 fun _ => rfl
theorem g43_28 : rg Z d rx_m43 28 L (.int y :: .int x :: S) (rz_mk h ι, w) = rg Z d rx_m43 29 L (.int (x + y) :: S) (rz_mk h ι, w) := rz_s1 fun _ => rfl
theorem g43_29 (c : rz_fI h a 5 3) (hz : Z.2.1 ≤ a) : rg Z d rx_m43 29 L (.int x :: .ref a :: S) (rz_mk h ι, w) = rg Z d rx_m43 32 L S (rz_mk h (rz_up ι a 3 x), w) := rz_pI rfl c hz
theorem g43_32 : rg Z d rx_m43 32 L [] (rz_mk h ι, w) = some (.inl none, (rz_mk h ι, w)) := rz_r1 fun _ => rfl
theorem e43 : rz_f Z (d + 1) 43 [.ref t0, .int s1] σ = rg Z d rx_m43 0 [some (.ref t0), some (.int s1)] [] σ := rz_f_eq rfl (Nat.le_of_ble_eq_true rfl)
theorem g44_0 : rg Z d rx_m44 0 [some (.ref a), l1, l2, l3, l4, l5] S (rz_mk h ι, w) = rg Z d rx_m44 1 [some (.ref a), l1, l2, l3, l4, l5] (.ref a :: S) (rz_mk h ι, w) := rz_s1 fun _ => rfl
theorem g44_1 (c : rz_fR h a 5 2) : rg Z d rx_m44 1 L (.ref a :: S) (rz_mk h ι, w) = rg Z d rx_m44 4 L (rz_rv h a 2 :: S) (rz_mk h ι, w) := rz_gR rfl (by decide) c
theorem g44_4 : rg Z d rx_m44 4 L S (rz_mk h ι, w) = rg Z d rx_m44 5 L (.int 3 :: S) (rz_mk h ι, w) := rz_s1 fun _ => rfl
theorem g44_5 : rg Z d rx_m44 5 [l0, some (.int x), l2, l3, l4, l5] S (rz_mk h ι, w) = rg Z d rx_m44 6 [l0, some (.int x), l2, l3, l4, l5] (.int x :: S) (rz_mk h ι, w) := rz_s1 fun _ => rfl
theorem g44_6 (c : rz_ar h a 0) (hi : rz_ix x (rz_ln h a)) (hz : Z.2.1 ≤ a) : rg Z d rx_m44 6 L (.int y :: .int x :: .ref a :: S) (rz_mk h ι, w) = rg Z d rx_m44 7 L S (rz_mk h (rz_up ι a x.toNatClampNeg y), w) := rz_iast rfl c hi hz
theorem g44_7 : rg Z d rx_m44 7 [some (.ref a), l1, l2, l3, l4, l5] S (rz_mk h ι, w) = rg Z d rx_m44 8 [some (.ref a), l1, l2, l3, l4, l5] (.ref a :: S) (rz_mk h ι, w) := rz_s1 fun _ => rfl
theorem g44_8 (c : rz_fR h a 5 2) : rg Z d rx_m44 8 L (.ref a :: S) (rz_mk h ι, w) = rg Z d rx_m44 11 L (rz_rv h a 2 :: S) (rz_mk h ι, w) := rz_gR rfl (by decide) c
theorem g44_11 : rg Z d rx_m44 11 L S (rz_mk h ι, w) = rg Z d rx_m44 12 L (.int 4 :: S) (rz_mk h ι, w) := rz_s1 fun _ => rfl
theorem g44_12 : rg Z d rx_m44 12 [l0, l1, some (.int x), l3, l4, l5] S (rz_mk h ι, w) = rg Z d rx_m44 13 [l0, l1, some (.int x), l3, l4, l5] (.int x :: S) (rz_mk h ι, w) := rz_s1 fun _ => rfl
theorem g44_13 (c : rz_ar h a 0) (hi : rz_ix x (rz_ln h a)) (hz : Z.2.1 ≤ a) : rg Z d rx_m44 13 L (.int y :: .int x :: .ref a :: S) (rz_mk h ι, w) = rg Z d rx_m44 14 L S (rz_mk h (rz_up ι a x.toNatClampNeg y), w) := rz_iast rfl c hi hz
theorem g44_14 : rg Z d rx_m44 14 [some (.ref a), l1, l2, l3, l4, l5] S (rz_mk h ι, w) = rg Z d rx_m44 15 [some (.ref a), l1, l2, l3, l4, l5] (.ref a :: S) (rz_mk h ι, w) := rz_s1 fun _ => rfl
theorem g44_15 (c : rz_fR h a 5 2) : rg Z d rx_m44 15 L (.ref a :: S) (rz_mk h ι, w) = rg Z d rx_m44 18 L (rz_rv h a 2 :: S) (rz_mk h ι, w) := rz_gR rfl (by decide) c
theorem g44_18 : rg Z d rx_m44 18 L S (rz_mk h ι, w) = rg Z d rx_m44 19 L (.int 5 :: S) (rz_mk h ι, w) := rz_s1 fun _ => rfl
theorem g44_19 : rg Z d rx_m44 19 [l0, l1, l2, some (.int x), l4, l5] S (rz_mk h ι, w) = rg Z d rx_m44 20 [l0, l1, l2, some (.int x), l4, l5] (.int x :: S) (rz_mk h ι, w) := rz_s1 fun _ => rfl
theorem g44_20 (c : rz_ar h a 0) (hi : rz_ix x (rz_ln h a)) (hz : Z.2.1 ≤ a) : rg Z d rx_m44 20 L (.int y :: .int x :: .ref a :: S) (rz_mk h ι, w) = rg Z d rx_m44 21 L S (rz_mk h (rz_up ι a x.toNatClampNeg y), w) := rz_iast rfl c hi hz
theorem g44_21 : rg Z d rx_m44 21 [some (.ref a), l1, l2, l3, l4, l5] S (rz_mk h ι, w) = rg Z d rx_m44 22 [some (.ref a), l1, l2, l3, l4, l5] (.ref a :: S) (rz_mk h ι, w) := rz_s1 fun _ => rfl
theorem g44_22 (c : rz_fR h a 5 2) : rg Z d rx_m44 22 L (.ref a :: S) (rz_mk h ι, w) = rg Z d rx_m44 25 L (rz_rv h a 2 :: S) (rz_mk h ι, w) := rz_gR rfl (by decide) c
theorem g44_25 : rg Z d rx_m44 25 L S (rz_mk h ι, w) = rg Z d rx_m44 27 L (.int 6 :: S) (rz_mk h ι, w) := rz_s1 fun _ => rfl
theorem g44_27 : rg Z d rx_m44 27 [l0, l1, l2, l3, some (.int x), l5] S (rz_mk h ι, w) = rg Z d rx_m44 29 [l0, l1, l2, l3, some (.int x), l5] (.int x :: S) (rz_mk h ι, w) := rz_s1 fun _ => rfl
theorem g44_29 (c : rz_ar h a 0) (hi : rz_ix x (rz_ln h a)) (hz : Z.2.1 ≤ a) : rg Z d rx_m44 29 L (.int y :: .int x :: .ref a :: S) (rz_mk h ι, w) = rg Z d rx_m44 30 L S (rz_mk h (rz_up ι a x.toNatClampNeg y), w) := rz_iast rfl c hi hz
theorem g44_30 : rg Z d rx_m44 30 [some (.ref a), l1, l2, l3, l4, l5] S (rz_mk h ι, w) = rg Z d rx_m44 31 [some (.ref a), l1, l2, l3, l4, l5] (.ref a :: S) (rz_mk h ι, w) := rz_s1 fun _ => rfl
theorem g44_31 (c : rz_fR h a 5 2) : rg Z d rx_m44 31 L (.ref a :: S) (rz_mk h ι, w) = rg Z d rx_m44 34 L (rz_rv h a 2 :: S) (rz_mk h ι, w) := rz_gR rfl (by decide) c
theorem g44_34 : rg Z d rx_m44 34 L S (rz_mk h ι, w) = rg Z d rx_m44 36 L (.int 7 :: S) (rz_mk h ι, w) := rz_s1 fun _ => rfl
theorem g44_36 : rg Z d rx_m44 36 [l0, l1, l2, l3, l4, some (.int x)] S (rz_mk h ι, w) = rg Z d rx_m44 38 [l0, l1, l2, l3, l4, some (.int x)] (.int x :: S) (rz_mk h ι, w) := rz_s1 fun _ => rfl
theorem g44_38 (c : rz_ar h a 0) (hi : rz_ix x (rz_ln h a)) (hz : Z.2.1 ≤ a) : rg Z d rx_m44 38 L (.int y :: .int x :: .ref a :: S) (rz_mk h ι, w) = rg Z d rx_m44 39 L S (rz_mk h (rz_up ι a x.toNatClampNeg y), w) := rz_iast rfl c hi hz
theorem g44_39 : rg Z d rx_m44 39 L [] (rz_mk h ι, w) = some (.inl none, (rz_mk h ι, w)) := rz_r1 fun _ => rfl
theorem e44 : rz_f Z (d + 1) 44 [.ref t0, .int s1, .int s2, .int s3, .int s4, .int s5] σ = rg Z d rx_m44 0 [some (.ref t0), some (.int s1), some (.int s2), some (.int s3), some (.int s4), some (.int s5)] [] σ := rz_f_eq rfl (Nat.le_of_ble_eq_true rfl)
theorem g45_0 : rg Z d rx_m45 0 [some (.ref a), l1, l2] S (rz_mk h ι, w) = rg Z d rx_m45 1 [some (.ref a), l1, l2] (.ref a :: S) (rz_mk h ι, w) := rz_s1 fun _ => rfl
theorem g45_1 : rg Z d rx_m45 1 [l0, some (.ref a), l2] S (rz_mk h ι, w) = rg Z d rx_m45 2 [l0, some (.ref a), l2] (.ref a :: S) (rz_mk h ι, w) := rz_s1 fun _ => rfl
theorem g45_2 : rg Z d rx_m45 2 [l0, l1, some (.int x)] S (rz_mk h ι, w) = rg Z d rx_m45 3 [l0, l1, some (.int x)] (.int x :: S) (rz_mk h ι, w) := rz_s1 fun _ => rfl
theorem g45_3 (c : rz_oc h a 8) : rg Z d rx_m45 3 L (v1 :: .ref a :: [.ref t0]) (rz_mk h ι, w) = rz_k true (rz_f Z d 76 [.ref a, v1] (rz_mk h ι, w)) (fun v σ' => rg Z d rx_m45 6 L (v.toList ++ [.ref t0]) σ') := rz_cv (pc := 3) (n := 1) (mi := 76) (S := v1 :: .ref a :: [.ref t0]) (rest := [.ref t0]) rfl rfl (Nat.le_of_ble_eq_true rfl) (Nat.le_of_ble_eq_true rfl) c
theorem g45_6 : rg Z d rx_m45 6 [l0, some (.ref a), l2] S (rz_mk h ι, w) = rg Z d rx_m45 7 [l0, some (.ref a), l2] (.ref a :: S) (rz_mk h ι, w) := rz_s1 fun _ => rfl
theorem g45_7 : rg Z d rx_m45 7 [l0, l1, some (.int x)] S (rz_mk h ι, w) = rg Z d rx_m45 8 [l0, l1, some (.int x)] (.int x :: S) (rz_mk h ι, w) := rz_s1 fun _ => rfl
theorem g45_8 (c : rz_oc h a 8) : rg Z d rx_m45 8 L (v1 :: .ref a :: [.int s0, .ref t1]) (rz_mk h ι, w) = rz_k true (rz_f Z d 72 [.ref a, v1] (rz_mk h ι, w)) (fun v σ' => rg Z d rx_m45 11 L (v.toList ++ [.int s0, .ref t1]) σ') := rz_cv (pc := 8) (n := 1) (mi := 72) (S := v1 :: .ref a :: [.int s0, .ref t1]) (rest := [.int s0, .ref t1]) rfl rfl (Nat.le_of_ble_eq_true rfl) (Nat.le_of_ble_eq_true rfl) c
theorem g45_11 : rg Z d rx_m45 11 [l0, some (.ref a), l2] S (rz_mk h ι, w) = rg Z d rx_m45 12 [l0, some (.ref a), l2] (.ref a :: S) (rz_mk h ι, w) := rz_s1 fun _ => rfl
theorem g45_12 (c : rz_fI h a 8 6) : rg Z d rx_m45 12 L (.ref a :: S) (rz_mk h ι, w) = rg Z d rx_m45 15 L (.int (ι a 6) :: S) (rz_mk h ι, w) := rz_gI rfl (by decide) c
theorem g45_15 : rg Z d rx_m45 15 [l0, some (.ref a), l2] S (rz_mk h ι, w) = rg Z d rx_m45 16 [l0, some (.ref a), l2] (.ref a :: S) (rz_mk h ι, w) := rz_s1 fun _ => rfl
theorem g45_16 (c : rz_fI h a 8 7) : rg Z d rx_m45 16 L (.ref a :: S) (rz_mk h ι, w) = rg Z d rx_m45 19 L (.int (ι a 7) :: S) (rz_mk h ι, w) := rz_gI rfl (by decide) c
theorem g45_19 : rg Z d rx_m45 19 [l0, l1, some (.int x)] S (rz_mk h ι, w) = rg Z d rx_m45 20 [l0, l1, some (.int x)] (.int x :: S) (rz_mk h ι, w) := rz_s1 fun _ => rfl
theorem g45_20 (c : rz_oc h a 5) : rg Z d rx_m45 20 L (v5 :: v4 :: v3 :: v2 :: v1 :: .ref a :: []) (rz_mk h ι, w) = rz_k true (rz_f Z d 44 [.ref a, v1, v2, v3, v4, v5] (rz_mk h ι, w)) (fun v σ' => rg Z d rx_m45 23 L (v.toList ++ []) σ') := rz_cv (pc := 20) (n := 5) (mi := 44) (S := v5 :: v4 :: v3 :: v2 :: v1 :: .ref a :: []) (rest := []) rfl rfl (Nat.le_of_ble_eq_true rfl) (Nat.le_of_ble_eq_true rfl) c
theorem g45_23 : rg Z d rx_m45 23 L [] (rz_mk h ι, w) = some (.inl none, (rz_mk h ι, w)) := rz_r1 fun _ => rfl
theorem e45 : rz_f Z (d + 1) 45 [.ref t0, .ref t1, .int s2] σ = rg Z d rx_m45 0 [some (.ref t0), some (.ref t1), some (.int s2)] [] σ := rz_f_eq rfl (Nat.le_of_ble_eq_true rfl)
theorem g46_0 : rg Z d rx_m46 0 [some (.ref a), l1, l2, l3, l4, l5, l6] S (rz_mk h ι, w) = rg Z d rx_m46 1 [some (.ref a), l1, l2, l3, l4, l5, l6] (.ref a :: S) (rz_mk h ι, w) := rz_s1 fun _ => rfl
theorem g46_1 (c : rz_fR h a 5 2) : rg Z d rx_m46 1 L (.ref a :: S) (rz_mk h ι, w) = rg Z d rx_m46 4 L (rz_rv h a 2 :: S) (rz_mk h ι, w) := rz_gR rfl (by decide) c
theorem g46_4 : rg Z d rx_m46 4 L S (rz_mk h ι, w) = rg Z d rx_m46 5 L (.int 0 :: S) (rz_mk h ι, w) := rz_s1 fun _ => rfl
theorem g46_5 : rg Z d rx_m46 5 [l0, some (.int x), l2, l3, l4, l5, l6] S (rz_mk h ι, w) = rg Z d rx_m46 6 [l0, some (.int x), l2, l3, l4, l5, l6] (.int x :: S) (rz_mk h ι, w) := rz_s1 fun _ => rfl
theorem g46_6 (c : rz_ar h a 0) (hi : rz_ix x (rz_ln h a)) (hz : Z.2.1 ≤ a) : rg Z d rx_m46 6 L (.int y :: .int x :: .ref a :: S) (rz_mk h ι, w) = rg Z d rx_m46 7 L S (rz_mk h (rz_up ι a x.toNatClampNeg y), w) := rz_iast rfl c hi hz
theorem g46_7 : rg Z d rx_m46 7 [some (.ref a), l1, l2, l3, l4, l5, l6] S (rz_mk h ι, w) = rg Z d rx_m46 8 [some (.ref a), l1, l2, l3, l4, l5, l6] (.ref a :: S) (rz_mk h ι, w) := rz_s1 fun _ => rfl
theorem g46_8 (c : rz_fR h a 5 2) : rg Z d rx_m46 8 L (.ref a :: S) (rz_mk h ι, w) = rg Z d rx_m46 11 L (rz_rv h a 2 :: S) (rz_mk h ι, w) := rz_gR rfl (by decide) c
theorem g46_11 : rg Z d rx_m46 11 L S (rz_mk h ι, w) = rg Z d rx_m46 12 L (.int 1 :: S) (rz_mk h ι, w) := rz_s1 fun _ => rfl
theorem g46_12 : rg Z d rx_m46 12 [l0, l1, some (.int x), l3, l4, l5, l6] S (rz_mk h ι, w) = rg Z d rx_m46 13 [l0, l1, some (.int x), l3, l4, l5, l6] (.int x :: S) (rz_mk h ι, w) := rz_s1 fun _ => rfl
theorem g46_13 (c : rz_ar h a 0) (hi : rz_ix x (rz_ln h a)) (hz : Z.2.1 ≤ a) : rg Z d rx_m46 13 L (.int y :: .int x :: .ref a :: S) (rz_mk h ι, w) = rg Z d rx_m46 14 L S (rz_mk h (rz_up ι a x.toNatClampNeg y), w) := rz_iast rfl c hi hz
theorem g46_14 : rg Z d rx_m46 14 [some (.ref a), l1, l2, l3, l4, l5, l6] S (rz_mk h ι, w) = rg Z d rx_m46 15 [some (.ref a), l1, l2, l3, l4, l5, l6] (.ref a :: S) (rz_mk h ι, w) := rz_s1 fun _ => rfl
theorem g46_15 (c : rz_fR h a 5 2) : rg Z d rx_m46 15 L (.ref a :: S) (rz_mk h ι, w) = rg Z d rx_m46 18 L (rz_rv h a 2 :: S) (rz_mk h ι, w) := rz_gR rfl (by decide) c
theorem g46_18 : rg Z d rx_m46 18 L S (rz_mk h ι, w) = rg Z d rx_m46 19 L (.int 2 :: S) (rz_mk h ι, w) := rz_s1 fun _ => rfl
theorem g46_19 : rg Z d rx_m46 19 [l0, l1, l2, some (.int x), l4, l5, l6] S (rz_mk h ι, w) = rg Z d rx_m46 20 [l0, l1, l2, some (.int x), l4, l5, l6] (.int x :: S) (rz_mk h ι, w) := rz_s1 fun _ => rfl
theorem g46_20 (c : rz_ar h a 0) (hi : rz_ix x (rz_ln h a)) (hz : Z.2.1 ≤ a) : rg Z d rx_m46 20 L (.int y :: .int x :: .ref a :: S) (rz_mk h ι, w) = rg Z d rx_m46 21 L S (rz_mk h (rz_up ι a x.toNatClampNeg y), w) := rz_iast rfl c hi hz
theorem g46_21 : rg Z d rx_m46 21 L S (rz_mk h ι, w) = rg Z d rx_m46 22 L (.int 0 :: S) (rz_mk h ι, w) := rz_s1 fun _ => rfl
theorem g46_22 : rg Z d rx_m46 22 [l0, l1, l2, some (.int z), l4, l5, l6] (.int x :: S) (rz_mk h ι, w) = rg Z d rx_m46 24 [l0, l1, l2, some (.int z), some (.int x), l5, l6] S (rz_mk h ι, w) := rz_s1 fun _ => rfl
theorem g46_24 : rg Z d rx_m46 24 L S (rz_mk h ι, w) = rg Z d rx_m46 25 L (.int 0 :: S) (rz_mk h ι, w) := rz_s1 fun _ => rfl
theorem g46_25 : rg Z d rx_m46 25 [l0, l1, l2, l3, some (.int z), l5, l6] (.int x :: S) (rz_mk h ι, w) = rg Z d rx_m46 27 [l0, l1, l2, l3, some (.int z), some (.int x), l6] S (rz_mk h ι, w) := rz_s1 fun _ => rfl
theorem g46_27 : rg Z d rx_m46 27 [l0, l1, l2, l3, l4, some (.int x), l6] S (rz_mk h ι, w) = rg Z d rx_m46 29 [l0, l1, l2, l3, l4, some (.int x), l6] (.int x :: S) (rz_mk h ι, w) := rz_s1 fun _ => rfl
theorem g46_29 : rg Z d rx_m46 29 [some (.ref a), l1, l2, l3, l4, l5, l6] S (rz_mk h ι, w) = rg Z d rx_m46 30 [some (.ref a), l1, l2, l3, l4, l5, l6] (.ref a :: S) (rz_mk h ι, w) := rz_s1 fun _ => rfl
theorem g46_30 (c : rz_fI h a 5 3) : rg Z d rx_m46 30 L (.ref a :: S) (rz_mk h ι, w) = rg Z d rx_m46 33 L (.int (ι a 3) :: S) (rz_mk h ι, w) := rz_gI rfl (by decide) c
theorem g46_33 : rg Z d rx_m46 33 L (.int y :: .int x :: S) (rz_mk h ι, w) = if x < y then rg Z d rx_m46 36 L S (rz_mk h ι, w) else rg Z d rx_m46 189 L S (rz_mk h ι, w) := rz_if2 (pc := 33) (t := 189) (off := 156) (cc := .ge) (by decide) rfl
theorem g46_36 : rg Z d rx_m46 36 [l0, l1, l2, l3, l4, some (.int x), l6] S (rz_mk h ι, w) = rg Z d rx_m46 38 [l0, l1, l2, l3, l4, some (.int x), l6] (.int x :: S) (rz_mk h ι, w) := rz_s1 fun _ => rfl
theorem g46_38 : rg Z d rx_m46 38 [some (.ref a), l1, l2, l3, l4, l5, l6] S (rz_mk h ι, w) = rg Z d rx_m46 39 [some (.ref a), l1, l2, l3, l4, l5, l6] (.ref a :: S) (rz_mk h ι, w) := rz_s1 fun _ => rfl
theorem g46_39 (c : rz_fR h a 5 0) : rg Z d rx_m46 39 L (.ref a :: S) (rz_mk h ι, w) = rg Z d rx_m46 42 L (rz_rv h a 0 :: S) (rz_mk h ι, w) := rz_gR rfl (by decide) c
theorem g46_42 (c : rz_ar h a 0) : rg Z d rx_m46 42 L (.ref a :: S) (rz_mk h ι, w) = rg Z d rx_m46 43 L (.int (Int32.ofNat (rz_ln h a)) :: S) (rz_mk h ι, w) := rz_alen (by decide) rfl c
theorem g46_43 : rg Z d rx_m46 43 L (.int y :: .int x :: S) (rz_mk h ι, w) = if x < y then rg Z d rx_m46 46 L S (rz_mk h ι, w) else rg Z d rx_m46 189 L S (rz_mk h ι, w) := rz_if2 (pc := 43) (t := 189) (off := 146) (cc := .ge) (by decide) rfl
theorem g46_46 : rg Z d rx_m46 46 [some (.ref a), l1, l2, l3, l4, l5, l6] S (rz_mk h ι, w) = rg Z d rx_m46 47 [some (.ref a), l1, l2, l3, l4, l5, l6] (.ref a :: S) (rz_mk h ι, w) := rz_s1 fun _ => rfl
theorem g46_47 (c : rz_fR h a 5 0) : rg Z d rx_m46 47 L (.ref a :: S) (rz_mk h ι, w) = rg Z d rx_m46 50 L (rz_rv h a 0 :: S) (rz_mk h ι, w) := rz_gR rfl (by decide) c
theorem g46_50 : rg Z d rx_m46 50 [l0, l1, l2, l3, l4, some (.int x), l6] S (rz_mk h ι, w) = rg Z d rx_m46 52 [l0, l1, l2, l3, l4, some (.int x), l6] (.int x :: S) (rz_mk h ι, w) := rz_s1 fun _ => rfl
theorem g46_52 (c : rz_ar h a 0) (hi : rz_ix x (rz_ln h a)) : rg Z d rx_m46 52 L (.int x :: .ref a :: S) (rz_mk h ι, w) = rg Z d rx_m46 53 L (.int (ι a x.toNatClampNeg) :: S) (rz_mk h ι, w) := rz_iald rfl c hi
theorem g46_53 : rg Z d rx_m46 53 [l0, l1, l2, l3, l4, some (.int z), l6] (.int x :: S) (rz_mk h ι, w) = rg Z d rx_m46 55 [l0, l1, l2, l3, l4, some (.int z), some (.int x)] S (rz_mk h ι, w) := rz_s1 fun _ => rfl
theorem g46_55 : rg Z d rx_m46 55 [l0, l1, l2, l3, l4, l5, some (.int x)] S (rz_mk h ι, w) = rg Z d rx_m46 57 [l0, l1, l2, l3, l4, l5, some (.int x)] (.int x :: S) (rz_mk h ι, w) := rz_s1 fun _ => rfl
theorem g46_57 : rg Z d rx_m46 57 L S (rz_mk h ι, w) = rg Z d rx_m46 59 L (.int 100 :: S) (rz_mk h ι, w) := rz_s1 fun _ => rfl
theorem g46_59 : rg Z d rx_m46 59 L (.int y :: .int x :: S) (rz_mk h ι, w) = if x < y then rg Z d rx_m46 90 L S (rz_mk h ι, w) else rg Z d rx_m46 62 L S (rz_mk h ι, w) := rz_if2 (pc := 59) (t := 90) (off := 31) (cc := .lt) (by decide) rfl
theorem g46_62 : rg Z d rx_m46 62 [l0, l1, l2, l3, some (.int x), l5, l6] S (rz_mk h ι, w) = rg Z d rx_m46 64 [l0, l1, l2, l3, some (.int x), l5, l6] (.int x :: S) (rz_mk h ι, w) := rz_s1 fun _ => rfl
theorem g46_64 : rg Z d rx_m46 64 [some (.ref a), l1, l2, l3, l4, l5, l6] S (rz_mk h ι, w) = rg Z d rx_m46 65 [some (.ref a), l1, l2, l3, l4, l5, l6] (.ref a :: S) (rz_mk h ι, w) := rz_s1 fun _ => rfl
theorem g46_65 (c : rz_fR h a 5 1) : rg Z d rx_m46 65 L (.ref a :: S) (rz_mk h ι, w) = rg Z d rx_m46 68 L (rz_rv h a 1 :: S) (rz_mk h ι, w) := rz_gR rfl (by decide) c
theorem g46_68 (c : rz_ar h a 0) : rg Z d rx_m46 68 L (.ref a :: S) (rz_mk h ι, w) = rg Z d rx_m46 69 L (.int (Int32.ofNat (rz_ln h a)) :: S) (rz_mk h ι, w) := rz_alen (by decide) rfl c
theorem g46_69 : rg Z d rx_m46 69 L (.int y :: .int x :: S) (rz_mk h ι, w) = if x < y then rg Z d rx_m46 72 L S (rz_mk h ι, w) else rg Z d rx_m46 90 L S (rz_mk h ι, w) := rz_if2 (pc := 69) (t := 90) (off := 21) (cc := .ge) (by decide) rfl
theorem g46_72 : rg Z d rx_m46 72 [some (.ref a), l1, l2, l3, l4, l5, l6] S (rz_mk h ι, w) = rg Z d rx_m46 73 [some (.ref a), l1, l2, l3, l4, l5, l6] (.ref a :: S) (rz_mk h ι, w) := rz_s1 fun _ => rfl
theorem g46_73 (c : rz_fR h a 5 1) : rg Z d rx_m46 73 L (.ref a :: S) (rz_mk h ι, w) = rg Z d rx_m46 76 L (rz_rv h a 1 :: S) (rz_mk h ι, w) := rz_gR rfl (by decide) c
theorem g46_76 : rg Z d rx_m46 76 [l0, l1, l2, l3, some (.int x), l5, l6] S (rz_mk h ι, w) = rg Z d rx_m46 78 [l0, l1, l2, l3, some (.int x), l5, l6] (.int x :: S) (rz_mk h ι, w) := rz_s1 fun _ => rfl
theorem g46_78 : rg Z d rx_m46 78 [l0, l1, l2, l3, l4, l5, some (.int x)] S (rz_mk h ι, w) = rg Z d rx_m46 80 [l0, l1, l2, l3, l4, l5, some (.int x)] (.int x :: S) (rz_mk h ι, w) := rz_s1 fun _ => rfl
theorem g46_80 : rg Z d rx_m46 80 L S (rz_mk h ι, w) = rg Z d rx_m46 82 L (.int 100 :: S) (rz_mk h ι, w) := rz_s1 fun _ => rfl
theorem g46_82 : rg Z d rx_m46 82 L (.int y :: .int x :: S) (rz_mk h ι, w) = rg Z d rx_m46 83 L (.int (x - y) :: S) (rz_mk h ι, w) := rz_s1 fun _ => rfl
theorem g46_83 (c : rz_ar h a 0) (hi : rz_ix x (rz_ln h a)) (hz : Z.2.1 ≤ a) : rg Z d rx_m46 83 L (.int y :: .int x :: .ref a :: S) (rz_mk h ι, w) = rg Z d rx_m46 84 L S (rz_mk h (rz_up ι a x.toNatClampNeg y), w) := rz_iast rfl c hi hz
theorem g46_84 : rg Z d rx_m46 84 [l0, l1, l2, some (.int z), some (.int x), l5, l6] S (rz_mk h ι, w) = rg Z d rx_m46 87 [l0, l1, l2, some (.int z), some (.int (x + 1)), l5, l6] S (rz_mk h ι, w) := rz_s1 fun _ => rfl
theorem g46_87 : rg Z d rx_m46 87 L S (rz_mk h ι, w) = rg Z d rx_m46 183 L S (rz_mk h ι, w) := rz_s1 fun _ => rfl
theorem g46_90 : rg Z d rx_m46 90 [l0, l1, l2, l3, l4, l5, some (.int x)] S (rz_mk h ι, w) = rg Z d rx_m46 92 [l0, l1, l2, l3, l4, l5, some (.int x)] (.int x :: S) (rz_mk h ι, w) := rz_s1 fun _ => rfl
theorem g46_92 : rg Z d rx_m46 92 L S (rz_mk h ι, w) = rg Z d rx_m46 94 L (.int 10 :: S) (rz_mk h ι, w) := rz_s1 fun _ => rfl
theorem g46_94 : rg Z d rx_m46 94 L (.int y :: .int x :: S) (rz_mk h ι, w) = if x < y then rg Z d rx_m46 137 L S (rz_mk h ι, w) else rg Z d rx_m46 97 L S (rz_mk h ι, w) := rz_if2 (pc := 94) (t := 137) (off := 43) (cc := .lt) (by decide) rfl
theorem g46_97 : rg Z d rx_m46 97 [l0, l1, l2, l3, l4, l5, some (.int x)] S (rz_mk h ι, w) = rg Z d rx_m46 99 [l0, l1, l2, l3, l4, l5, some (.int x)] (.int x :: S) (rz_mk h ι, w) := rz_s1 fun _ => rfl
theorem g46_99 : rg Z d rx_m46 99 L S (rz_mk h ι, w) = rg Z d rx_m46 101 L (.int 18 :: S) (rz_mk h ι, w) := rz_s1 fun _ => rfl
theorem g46_101 : rg Z d rx_m46 101 L (.int y :: .int x :: S) (rz_mk h ι, w) = if x < y then rg Z d rx_m46 104 L S (rz_mk h ι, w) else rg Z d rx_m46 137 L S (rz_mk h ι, w) := rz_if2 (pc := 101) (t := 137) (off := 36) (cc := .ge) (by decide) rfl
theorem g46_104 : rg Z d rx_m46 104 [l0, l1, l2, l3, some (.int x), l5, l6] S (rz_mk h ι, w) = rg Z d rx_m46 106 [l0, l1, l2, l3, some (.int x), l5, l6] (.int x :: S) (rz_mk h ι, w) := rz_s1 fun _ => rfl
theorem g46_106 : rg Z d rx_m46 106 [some (.ref a), l1, l2, l3, l4, l5, l6] S (rz_mk h ι, w) = rg Z d rx_m46 107 [some (.ref a), l1, l2, l3, l4, l5, l6] (.ref a :: S) (rz_mk h ι, w) := rz_s1 fun _ => rfl
theorem g46_107 (c : rz_fR h a 5 1) : rg Z d rx_m46 107 L (.ref a :: S) (rz_mk h ι, w) = rg Z d rx_m46 110 L (rz_rv h a 1 :: S) (rz_mk h ι, w) := rz_gR rfl (by decide) c
theorem g46_110 (c : rz_ar h a 0) : rg Z d rx_m46 110 L (.ref a :: S) (rz_mk h ι, w) = rg Z d rx_m46 111 L (.int (Int32.ofNat (rz_ln h a)) :: S) (rz_mk h ι, w) := rz_alen (by decide) rfl c
theorem g46_111 : rg Z d rx_m46 111 L (.int y :: .int x :: S) (rz_mk h ι, w) = if x < y then rg Z d rx_m46 114 L S (rz_mk h ι, w) else rg Z d rx_m46 137 L S (rz_mk h ι, w) := rz_if2 (pc := 111) (t := 137) (off := 26) (cc := .ge) (by decide) rfl
theorem g46_114 : rg Z d rx_m46 114 [some (.ref a), l1, l2, l3, l4, l5, l6] S (rz_mk h ι, w) = rg Z d rx_m46 115 [some (.ref a), l1, l2, l3, l4, l5, l6] (.ref a :: S) (rz_mk h ι, w) := rz_s1 fun _ => rfl
theorem g46_115 (c : rz_fR h a 5 1) : rg Z d rx_m46 115 L (.ref a :: S) (rz_mk h ι, w) = rg Z d rx_m46 118 L (rz_rv h a 1 :: S) (rz_mk h ι, w) := rz_gR rfl (by decide) c
theorem g46_118 : rg Z d rx_m46 118 [l0, l1, l2, l3, some (.int x), l5, l6] S (rz_mk h ι, w) = rg Z d rx_m46 120 [l0, l1, l2, l3, some (.int x), l5, l6] (.int x :: S) (rz_mk h ι, w) := rz_s1 fun _ => rfl
theorem g46_120 : rg Z d rx_m46 120 [some (.ref a), l1, l2, l3, l4, l5, l6] S (rz_mk h ι, w) = rg Z d rx_m46 121 [some (.ref a), l1, l2, l3, l4, l5, l6] (.ref a :: S) (rz_mk h ι, w) := rz_s1 fun _ => rfl
theorem g46_121 (c : rz_fR h a 5 2) : rg Z d rx_m46 121 L (.ref a :: S) (rz_mk h ι, w) = rg Z d rx_m46 124 L (rz_rv h a 2 :: S) (rz_mk h ι, w) := rz_gR rfl (by decide) c
theorem g46_124 : rg Z d rx_m46 124 [l0, l1, l2, l3, l4, l5, some (.int x)] S (rz_mk h ι, w) = rg Z d rx_m46 126 [l0, l1, l2, l3, l4, l5, some (.int x)] (.int x :: S) (rz_mk h ι, w) := rz_s1 fun _ => rfl
theorem g46_126 : rg Z d rx_m46 126 L S (rz_mk h ι, w) = rg Z d rx_m46 128 L (.int 10 :: S) (rz_mk h ι, w) := rz_s1 fun _ => rfl
theorem g46_128 : rg Z d rx_m46 128 L (.int y :: .int x :: S) (rz_mk h ι, w) = rg Z d rx_m46 129 L (.int (x - y) :: S) (rz_mk h ι, w) := rz_s1 fun _ => rfl
theorem g46_129 (c : rz_ar h a 0) (hi : rz_ix x (rz_ln h a)) : rg Z d rx_m46 129 L (.int x :: .ref a :: S) (rz_mk h ι, w) = rg Z d rx_m46 130 L (.int (ι a x.toNatClampNeg) :: S) (rz_mk h ι, w) := rz_iald rfl c hi
theorem g46_130 (c : rz_ar h a 0) (hi : rz_ix x (rz_ln h a)) (hz : Z.2.1 ≤ a) : rg Z d rx_m46 130 L (.int y :: .int x :: .ref a :: S) (rz_mk h ι, w) = rg Z d rx_m46 131 L S (rz_mk h (rz_up ι a x.toNatClampNeg y), w) := rz_iast rfl c hi hz
theorem g46_131 : rg Z d rx_m46 131 [l0, l1, l2, some (.int z), some (.int x), l5, l6] S (rz_mk h ι, w) = rg Z d rx_m46 134 [l0, l1, l2, some (.int z), some (.int (x + 1)), l5, l6] S (rz_mk h ι, w) := rz_s1 fun _ => rfl
theorem g46_134 : rg Z d rx_m46 134 L S (rz_mk h ι, w) = rg Z d rx_m46 183 L S (rz_mk h ι, w) := rz_s1 fun _ => rfl
theorem g46_137 : rg Z d rx_m46 137 [l0, l1, l2, l3, l4, l5, some (.int x)] S (rz_mk h ι, w) = rg Z d rx_m46 139 [l0, l1, l2, l3, l4, l5, some (.int x)] (.int x :: S) (rz_mk h ι, w) := rz_s1 fun _ => rfl
theorem g46_139 : rg Z d rx_m46 139 L S (rz_mk h ι, w) = rg Z d rx_m46 141 L (.int 10 :: S) (rz_mk h ι, w) := rz_s1 fun _ => rfl
theorem g46_141 : rg Z d rx_m46 141 L (.int y :: .int x :: S) (rz_mk h ι, w) = if x < y then rg Z d rx_m46 144 L S (rz_mk h ι, w) else rg Z d rx_m46 183 L S (rz_mk h ι, w) := rz_if2 (pc := 141) (t := 183) (off := 42) (cc := .ge) (by decide) rfl
theorem g46_144 : rg Z d rx_m46 144 [l0, l1, l2, l3, some (.int x), l5, l6] S (rz_mk h ι, w) = rg Z d rx_m46 146 [l0, l1, l2, l3, some (.int x), l5, l6] (.int x :: S) (rz_mk h ι, w) := rz_s1 fun _ => rfl
theorem g46_146 : rg Z d rx_m46 146 L S (rz_mk h ι, w) = rg Z d rx_m46 147 L (.int 2 :: S) (rz_mk h ι, w) := rz_s1 fun _ => rfl
theorem g46_147 : rg Z d rx_m46 147 L (.int y :: .int x :: S) (rz_mk h ι, w) = if x < y then rg Z d rx_m46 183 L S (rz_mk h ι, w) else rg Z d rx_m46 150 L S (rz_mk h ι, w) := rz_if2 (pc := 147) (t := 183) (off := 36) (cc := .lt) (by decide) rfl
theorem g46_150 : rg Z d rx_m46 150 [l0, l1, l2, some (.int z), some (.int x), l5, l6] S (rz_mk h ι, w) = rg Z d rx_m46 153 [l0, l1, l2, some (.int z), some (.int (x + (-1))), l5, l6] S (rz_mk h ι, w) := rz_s1 fun _ => rfl
theorem g46_153 : rg Z d rx_m46 153 [some (.ref a), l1, l2, l3, l4, l5, l6] S (rz_mk h ι, w) = rg Z d rx_m46 154 [some (.ref a), l1, l2, l3, l4, l5, l6] (.ref a :: S) (rz_mk h ι, w) := rz_s1 fun _ => rfl
theorem g46_154 (c : rz_fR h a 5 1) : rg Z d rx_m46 154 L (.ref a :: S) (rz_mk h ι, w) = rg Z d rx_m46 157 L (rz_rv h a 1 :: S) (rz_mk h ι, w) := rz_gR rfl (by decide) c
theorem g46_157 : rg Z d rx_m46 157 [l0, l1, l2, l3, some (.int x), l5, l6] S (rz_mk h ι, w) = rg Z d rx_m46 159 [l0, l1, l2, l3, some (.int x), l5, l6] (.int x :: S) (rz_mk h ι, w) := rz_s1 fun _ => rfl
theorem g46_159 : rg Z d rx_m46 159 L S (rz_mk h ι, w) = rg Z d rx_m46 160 L (.int 1 :: S) (rz_mk h ι, w) := rz_s1 fun _ => rfl
theorem g46_160 : rg Z d rx_m46 160 L (.int y :: .int x :: S) (rz_mk h ι, w) = rg Z d rx_m46 161 L (.int (x - y) :: S) (rz_mk h ι, w) := rz_s1 fun _ => rfl
theorem g46_161 : rg Z d rx_m46 161 [l0, l1, l2, l3, l4, l5, some (.int x)] S (rz_mk h ι, w) = rg Z d rx_m46 163 [l0, l1, l2, l3, l4, l5, some (.int x)] (.int x :: S) (rz_mk h ι, w) := rz_s1 fun _ => rfl
theorem g46_163 : rg Z d rx_m46 163 [some (.ref a), l1, l2, l3, l4, l5, l6] S (rz_mk h ι, w) = rg Z d rx_m46 164 [some (.ref a), l1, l2, l3, l4, l5, l6] (.ref a :: S) (rz_mk h ι, w) := rz_s1 fun _ => rfl
theorem g46_164 (c : rz_fR h a 5 1) : rg Z d rx_m46 164 L (.ref a :: S) (rz_mk h ι, w) = rg Z d rx_m46 167 L (rz_rv h a 1 :: S) (rz_mk h ι, w) := rz_gR rfl (by decide) c
theorem g46_167 : rg Z d rx_m46 167 [l0, l1, l2, l3, some (.int x), l5, l6] S (rz_mk h ι, w) = rg Z d rx_m46 169 [l0, l1, l2, l3, some (.int x), l5, l6] (.int x :: S) (rz_mk h ι, w) := rz_s1 fun _ => rfl
theorem g46_169 : rg Z d rx_m46 169 L S (rz_mk h ι, w) = rg Z d rx_m46 170 L (.int 1 :: S) (rz_mk h ι, w) := rz_s1 fun _ => rfl
theorem g46_170 : rg Z d rx_m46 170 L (.int y :: .int x :: S) (rz_mk h ι, w) = rg Z d rx_m46 171 L (.int (x - y) :: S) (rz_mk h ι, w) := rz_s1 fun _ => rfl
theorem g46_171 (c : rz_ar h a 0) (hi : rz_ix x (rz_ln h a)) : rg Z d rx_m46 171 L (.int x :: .ref a :: S) (rz_mk h ι, w) = rg Z d rx_m46 172 L (.int (ι a x.toNatClampNeg) :: S) (rz_mk h ι, w) := rz_iald rfl c hi
theorem g46_172 : rg Z d rx_m46 172 [some (.ref a), l1, l2, l3, l4, l5, l6] S (rz_mk h ι, w) = rg Z d rx_m46 173 [some (.ref a), l1, l2, l3, l4, l5, l6] (.ref a :: S) (rz_mk h ι, w) := rz_s1 fun _ => rfl
theorem g46_173 (c : rz_fR h a 5 1) : rg Z d rx_m46 173 L (.ref a :: S) (rz_mk h ι, w) = rg Z d rx_m46 176 L (rz_rv h a 1 :: S) (rz_mk h ι, w) := rz_gR rfl (by decide) c
theorem g46_176 : rg Z d rx_m46 176 [l0, l1, l2, l3, some (.int x), l5, l6] S (rz_mk h ι, w) = rg Z d rx_m46 178 [l0, l1, l2, l3, some (.int x), l5, l6] (.int x :: S) (rz_mk h ι, w) := rz_s1 fun _ => rfl
theorem g46_178 (c : rz_ar h a 0) (hi : rz_ix x (rz_ln h a)) : rg Z d rx_m46 178 L (.int x :: .ref a :: S) (rz_mk h ι, w) = rg Z d rx_m46 179 L (.int (ι a x.toNatClampNeg) :: S) (rz_mk h ι, w) := rz_iald rfl c hi
theorem g46_179 : rg Z d rx_m46 179 L (v3 :: v2 :: v1 :: [.int s0, .ref t1]) (rz_mk h ι, w) = rz_k true (rz_f Z d 47 [v1, v2, v3] (rz_mk h ι, w)) (fun v σ' => rg Z d rx_m46 182 L (v.toList ++ [.int s0, .ref t1]) σ') := rz_cs (pc := 179) (n := 3) (mi := 47) (S := v3 :: v2 :: v1 :: [.int s0, .ref t1]) (rest := [.int s0, .ref t1]) rfl rfl (Nat.le_of_ble_eq_true rfl) (Nat.le_of_ble_eq_true rfl)
theorem g46_182 (c : rz_ar h a 0) (hi : rz_ix x (rz_ln h a)) (hz : Z.2.1 ≤ a) : rg Z d rx_m46 182 L (.int y :: .int x :: .ref a :: S) (rz_mk h ι, w) = rg Z d rx_m46 183 L S (rz_mk h (rz_up ι a x.toNatClampNeg y), w) := rz_iast rfl c hi hz
theorem g46_183 : rg Z d rx_m46 183 [l0, l1, l2, l3, some (.int z), some (.int x), l6] S (rz_mk h ι, w) = rg Z d rx_m46 186 [l0, l1, l2, l3, some (.int z), some (.int (x + 1)), l6] S (rz_mk h ι, w) := rz_s1 fun _ => rfl
theorem g46_186 : rg Z d rx_m46 186 L S (rz_mk h ι, w) = rg Z d rx_m46 27 L S (rz_mk h ι, w) := rz_s1 fun _ => rfl
theorem g46_189 : rg Z d rx_m46 189 [some (.ref a), l1, l2, l3, l4, l5, l6] S (rz_mk h ι, w) = rg Z d rx_m46 190 [some (.ref a), l1, l2, l3, l4, l5, l6] (.ref a :: S) (rz_mk h ι, w) := rz_s1 fun _ => rfl
theorem g46_190 (c : rz_fR h a 5 1) : rg Z d rx_m46 190 L (.ref a :: S) (rz_mk h ι, w) = rg Z d rx_m46 193 L (rz_rv h a 1 :: S) (rz_mk h ι, w) := rz_gR rfl (by decide) c
theorem g46_193 : rg Z d rx_m46 193 L S (rz_mk h ι, w) = rg Z d rx_m46 194 L (.int 0 :: S) (rz_mk h ι, w) := rz_s1 fun _ => rfl
theorem g46_194 (c : rz_ar h a 0) (hi : rz_ix x (rz_ln h a)) : rg Z d rx_m46 194 L (.int x :: .ref a :: S) (rz_mk h ι, w) = rg Z d rx_m46 195 L (.int (ι a x.toNatClampNeg) :: S) (rz_mk h ι, w) := rz_iald rfl c hi
theorem g46_195 : rg Z d rx_m46 195 [l0, l1, l2, l3, some (.int z), l5, l6] (.int x :: S) (rz_mk h ι, w) = rg Z d rx_m46 197 [l0, l1, l2, l3, some (.int z), some (.int x), l6] S (rz_mk h ι, w) := rz_s1 fun _ => rfl
theorem g46_197 : rg Z d rx_m46 197 [l0, l1, l2, l3, l4, some (.int x), l6] S (rz_mk h ι, w) = rg Z d rx_m46 199 [l0, l1, l2, l3, l4, some (.int x), l6] (.int x :: S) (rz_mk h ι, w) := rz_s1 fun _ => rfl
theorem g46_199 : rg Z d rx_m46 199 L (.int x :: S) (rz_mk h ι, w) = if x < 0 then rg Z d rx_m46 202 L S (rz_mk h ι, w) else rg Z d rx_m46 204 L S (rz_mk h ι, w) := rz_if1 (pc := 199) (t := 204) (off := 5) (cc := .ge) (by decide) rfl
theorem g46_202 : rg Z d rx_m46 202 L S (rz_mk h ι, w) = rg Z d rx_m46 203 L (.int 0 :: S) (rz_mk h ι, w) := rz_s1 fun _ => rfl
theorem g46_203 : rg Z d rx_m46 203 L [.int x] (rz_mk h ι, w) = some (.inl (some (.int x)), (rz_mk h ι, w)) := rz_reti rfl rfl rfl
theorem g46_204 : rg Z d rx_m46 204 [l0, l1, l2, l3, l4, some (.int x), l6] S (rz_mk h ι, w) = rg Z d rx_m46 206 [l0, l1, l2, l3, l4, some (.int x), l6] (.int x :: S) (rz_mk h ι, w) := rz_s1 fun _ => rfl
theorem g46_206 : rg Z d rx_m46 206 L S (rz_mk h ι, w) = rg Z d rx_m46 208 L (.int 99 :: S) (rz_mk h ι, w) := rz_s1 fun _ => rfl
theorem g46_208 : rg Z d rx_m46 208 L (.int y :: .int x :: S) (rz_mk h ι, w) = if y < x then rg Z d rx_m46 211 L S (rz_mk h ι, w) else rg Z d rx_m46 216 L S (rz_mk h ι, w) := rz_if2 (pc := 208) (t := 216) (off := 8) (cc := .le) (by decide) rfl
theorem g46_211 : rg Z d rx_m46 211 L S (rz_mk h ι, w) = rg Z d rx_m46 213 L (.int 99 :: S) (rz_mk h ι, w) := rz_s1 fun _ => rfl
theorem g46_213 : rg Z d rx_m46 213 L S (rz_mk h ι, w) = rg Z d rx_m46 218 L S (rz_mk h ι, w) := rz_s1 fun _ => rfl
theorem g46_216 : rg Z d rx_m46 216 [l0, l1, l2, l3, l4, some (.int x), l6] S (rz_mk h ι, w) = rg Z d rx_m46 218 [l0, l1, l2, l3, l4, some (.int x), l6] (.int x :: S) (rz_mk h ι, w) := rz_s1 fun _ => rfl
theorem g46_218 : rg Z d rx_m46 218 L [.int x] (rz_mk h ι, w) = some (.inl (some (.int x)), (rz_mk h ι, w)) := rz_reti rfl rfl rfl
theorem e46 : rz_f Z (d + 1) 46 [.ref t0, .int s1, .int s2, .int s3] σ = rg Z d rx_m46 0 [some (.ref t0), some (.int s1), some (.int s2), some (.int s3), none, none, none] [] σ := rz_f_eq rfl (Nat.le_of_ble_eq_true rfl)
theorem g47_0 : rg Z d rx_m47 0 [some (.int x), l1, l2] S (rz_mk h ι, w) = rg Z d rx_m47 1 [some (.int x), l1, l2] (.int x :: S) (rz_mk h ι, w) := rz_s1 fun _ => rfl
theorem g47_1 : rg Z d rx_m47 1 L (.int x :: S) (rz_mk h ι, w) = if x = 0 then rg Z d rx_m47 40 L S (rz_mk h ι, w) else if x = 1 then rg Z d rx_m47 44 L S (rz_mk h ι, w) else if x = 2 then rg Z d rx_m47 48 L S (rz_mk h ι, w) else if x = 3 then rg Z d rx_m47 52 L S (rz_mk h ι, w) else if x = 4 then rg Z d rx_m47 64 L S (rz_mk h ι, w) else if x = 5 then rg Z d rx_m47 76 L S (rz_mk h ι, w) else rg Z d rx_m47 87 L S (rz_mk h ι, w) := by
  by_cases c0 : x = 0
  · rw [if_pos c0, c0]; exact rz_s1 fun _ => rfl
  rw [if_neg c0]
  by_cases c1 : x = 1
  · rw [if_pos c1, c1]; exact rz_s1 fun _ => rfl
  rw [if_neg c1]
  by_cases c2 : x = 2
  · rw [if_pos c2, c2]; exact rz_s1 fun _ => rfl
  rw [if_neg c2]
  by_cases c3 : x = 3
  · rw [if_pos c3, c3]; exact rz_s1 fun _ => rfl
  rw [if_neg c3]
  by_cases c4 : x = 4
  · rw [if_pos c4, c4]; exact rz_s1 fun _ => rfl
  rw [if_neg c4]
  by_cases c5 : x = 5
  · rw [if_pos c5, c5]; exact rz_s1 fun _ => rfl
  rw [if_neg c5]
  refine rz_s1 fun c => ?_
  unfold rx_at1
  show ((if x.toInt < 0 ∨ 5 < x.toInt then rx_jmp _ _ _ _ else _) : rx_P).map _ = _
  rw [if_pos]
  · rfl
  · apply Decidable.byContradiction
    intro hc
    have hn : x.toInt = 0 ∨ x.toInt = 1 ∨ x.toInt = 2 ∨ x.toInt = 3 ∨ x.toInt = 4 ∨ x.toInt = 5 := by omega
    rcases hn with hn | hn | hn | hn | hn | hn
    · exact c0 (Int32.toInt_inj.mp (hn.trans (by decide)))
    · exact c1 (Int32.toInt_inj.mp (hn.trans (by decide)))
    · exact c2 (Int32.toInt_inj.mp (hn.trans (by decide)))
    · exact c3 (Int32.toInt_inj.mp (hn.trans (by decide)))
    · exact c4 (Int32.toInt_inj.mp (hn.trans (by decide)))
    · exact c5 (Int32.toInt_inj.mp (hn.trans (by decide)))
theorem g47_40 : rg Z d rx_m47 40 [l0, some (.int x), l2] S (rz_mk h ι, w) = rg Z d rx_m47 41 [l0, some (.int x), l2] (.int x :: S) (rz_mk h ι, w) := rz_s1 fun _ => rfl
theorem g47_41 : rg Z d rx_m47 41 [l0, l1, some (.int x)] S (rz_mk h ι, w) = rg Z d rx_m47 42 [l0, l1, some (.int x)] (.int x :: S) (rz_mk h ι, w) := rz_s1 fun _ => rfl
theorem g47_42 : rg Z d rx_m47 42 L (.int y :: .int x :: S) (rz_mk h ι, w) = rg Z d rx_m47 43 L (.int (x + y) :: S) (rz_mk h ι, w) := rz_s1 fun _ => rfl
theorem g47_43 : rg Z d rx_m47 43 L [.int x] (rz_mk h ι, w) = some (.inl (some (.int x)), (rz_mk h ι, w)) := rz_reti rfl rfl rfl
theorem g47_44 : rg Z d rx_m47 44 [l0, some (.int x), l2] S (rz_mk h ι, w) = rg Z d rx_m47 45 [l0, some (.int x), l2] (.int x :: S) (rz_mk h ι, w) := rz_s1 fun _ => rfl
theorem g47_45 : rg Z d rx_m47 45 [l0, l1, some (.int x)] S (rz_mk h ι, w) = rg Z d rx_m47 46 [l0, l1, some (.int x)] (.int x :: S) (rz_mk h ι, w) := rz_s1 fun _ => rfl
theorem g47_46 : rg Z d rx_m47 46 L (.int y :: .int x :: S) (rz_mk h ι, w) = rg Z d rx_m47 47 L (.int (x - y) :: S) (rz_mk h ι, w) := rz_s1 fun _ => rfl
theorem g47_47 : rg Z d rx_m47 47 L [.int x] (rz_mk h ι, w) = some (.inl (some (.int x)), (rz_mk h ι, w)) := rz_reti rfl rfl rfl
theorem g47_48 : rg Z d rx_m47 48 [l0, some (.int x), l2] S (rz_mk h ι, w) = rg Z d rx_m47 49 [l0, some (.int x), l2] (.int x :: S) (rz_mk h ι, w) := rz_s1 fun _ => rfl
theorem g47_49 : rg Z d rx_m47 49 [l0, l1, some (.int x)] S (rz_mk h ι, w) = rg Z d rx_m47 50 [l0, l1, some (.int x)] (.int x :: S) (rz_mk h ι, w) := rz_s1 fun _ => rfl
theorem g47_50 : rg Z d rx_m47 50 L (.int y :: .int x :: S) (rz_mk h ι, w) = rg Z d rx_m47 51 L (.int (x * y) :: S) (rz_mk h ι, w) := rz_s1 fun _ => rfl
theorem g47_51 : rg Z d rx_m47 51 L [.int x] (rz_mk h ι, w) = some (.inl (some (.int x)), (rz_mk h ι, w)) := rz_reti rfl rfl rfl
theorem g47_52 : rg Z d rx_m47 52 [l0, l1, some (.int x)] S (rz_mk h ι, w) = rg Z d rx_m47 53 [l0, l1, some (.int x)] (.int x :: S) (rz_mk h ι, w) := rz_s1 fun _ => rfl
theorem g47_53 : rg Z d rx_m47 53 L (.int x :: S) (rz_mk h ι, w) = if x = 0 then rg Z d rx_m47 56 L S (rz_mk h ι, w) else rg Z d rx_m47 60 L S (rz_mk h ι, w) := rz_if1 (pc := 53) (t := 60) (off := 7) (cc := .ne) (by decide) rfl
theorem g47_56 : rg Z d rx_m47 56 L S (rz_mk h ι, w) = rg Z d rx_m47 57 L (.int 0 :: S) (rz_mk h ι, w) := rz_s1 fun _ => rfl
theorem g47_57 : rg Z d rx_m47 57 L S (rz_mk h ι, w) = rg Z d rx_m47 63 L S (rz_mk h ι, w) := rz_s1 fun _ => rfl
theorem g47_60 : rg Z d rx_m47 60 [l0, some (.int x), l2] S (rz_mk h ι, w) = rg Z d rx_m47 61 [l0, some (.int x), l2] (.int x :: S) (rz_mk h ι, w) := rz_s1 fun _ => rfl
theorem g47_61 : rg Z d rx_m47 61 [l0, l1, some (.int x)] S (rz_mk h ι, w) = rg Z d rx_m47 62 [l0, l1, some (.int x)] (.int x :: S) (rz_mk h ι, w) := rz_s1 fun _ => rfl
theorem g47_62 (c : ¬ y = 0) : rg Z d rx_m47 62 L (.int y :: .int x :: S) (rz_mk h ι, w) = rg Z d rx_m47 63 L (.int (x / y) :: S) (rz_mk h ι, w) := rz_div rfl c
theorem g47_63 : rg Z d rx_m47 63 L [.int x] (rz_mk h ι, w) = some (.inl (some (.int x)), (rz_mk h ι, w)) := rz_reti rfl rfl rfl
theorem g47_64 : rg Z d rx_m47 64 [l0, l1, some (.int x)] S (rz_mk h ι, w) = rg Z d rx_m47 65 [l0, l1, some (.int x)] (.int x :: S) (rz_mk h ι, w) := rz_s1 fun _ => rfl
theorem g47_65 : rg Z d rx_m47 65 L (.int x :: S) (rz_mk h ι, w) = if x = 0 then rg Z d rx_m47 68 L S (rz_mk h ι, w) else rg Z d rx_m47 72 L S (rz_mk h ι, w) := rz_if1 (pc := 65) (t := 72) (off := 7) (cc := .ne) (by decide) rfl
theorem g47_68 : rg Z d rx_m47 68 L S (rz_mk h ι, w) = rg Z d rx_m47 69 L (.int 0 :: S) (rz_mk h ι, w) := rz_s1 fun _ => rfl
theorem g47_69 : rg Z d rx_m47 69 L S (rz_mk h ι, w) = rg Z d rx_m47 75 L S (rz_mk h ι, w) := rz_s1 fun _ => rfl
theorem g47_72 : rg Z d rx_m47 72 [l0, some (.int x), l2] S (rz_mk h ι, w) = rg Z d rx_m47 73 [l0, some (.int x), l2] (.int x :: S) (rz_mk h ι, w) := rz_s1 fun _ => rfl
theorem g47_73 : rg Z d rx_m47 73 [l0, l1, some (.int x)] S (rz_mk h ι, w) = rg Z d rx_m47 74 [l0, l1, some (.int x)] (.int x :: S) (rz_mk h ι, w) := rz_s1 fun _ => rfl
theorem g47_74 (c : ¬ y = 0) : rg Z d rx_m47 74 L (.int y :: .int x :: S) (rz_mk h ι, w) = rg Z d rx_m47 75 L (.int (x - x / y * y) :: S) (rz_mk h ι, w) := rz_rem rfl c
theorem g47_75 : rg Z d rx_m47 75 L [.int x] (rz_mk h ι, w) = some (.inl (some (.int x)), (rz_mk h ι, w)) := rz_reti rfl rfl rfl
theorem g47_76 : rg Z d rx_m47 76 [l0, some (.int x), l2] S (rz_mk h ι, w) = rg Z d rx_m47 77 [l0, some (.int x), l2] (.int x :: S) (rz_mk h ι, w) := rz_s1 fun _ => rfl
theorem g47_77 : rg Z d rx_m47 77 [l0, l1, some (.int x)] S (rz_mk h ι, w) = rg Z d rx_m47 78 [l0, l1, some (.int x)] (.int x :: S) (rz_mk h ι, w) := rz_s1 fun _ => rfl
theorem g47_78 : rg Z d rx_m47 78 L (.int y :: .int x :: S) (rz_mk h ι, w) = if x < y then rg Z d rx_m47 81 L S (rz_mk h ι, w) else rg Z d rx_m47 85 L S (rz_mk h ι, w) := rz_if2 (pc := 78) (t := 85) (off := 7) (cc := .ge) (by decide) rfl
theorem g47_81 : rg Z d rx_m47 81 [l0, some (.int x), l2] S (rz_mk h ι, w) = rg Z d rx_m47 82 [l0, some (.int x), l2] (.int x :: S) (rz_mk h ι, w) := rz_s1 fun _ => rfl
theorem g47_82 : rg Z d rx_m47 82 L S (rz_mk h ι, w) = rg Z d rx_m47 86 L S (rz_mk h ι, w) := rz_s1 fun _ => rfl
theorem g47_85 : rg Z d rx_m47 85 [l0, l1, some (.int x)] S (rz_mk h ι, w) = rg Z d rx_m47 86 [l0, l1, some (.int x)] (.int x :: S) (rz_mk h ι, w) := rz_s1 fun _ => rfl
theorem g47_86 : rg Z d rx_m47 86 L [.int x] (rz_mk h ι, w) = some (.inl (some (.int x)), (rz_mk h ι, w)) := rz_reti rfl rfl rfl
theorem g47_87 : rg Z d rx_m47 87 [l0, some (.int x), l2] S (rz_mk h ι, w) = rg Z d rx_m47 88 [l0, some (.int x), l2] (.int x :: S) (rz_mk h ι, w) := rz_s1 fun _ => rfl
theorem g47_88 : rg Z d rx_m47 88 [l0, l1, some (.int x)] S (rz_mk h ι, w) = rg Z d rx_m47 89 [l0, l1, some (.int x)] (.int x :: S) (rz_mk h ι, w) := rz_s1 fun _ => rfl
theorem g47_89 : rg Z d rx_m47 89 L (.int y :: .int x :: S) (rz_mk h ι, w) = if y < x then rg Z d rx_m47 92 L S (rz_mk h ι, w) else rg Z d rx_m47 96 L S (rz_mk h ι, w) := rz_if2 (pc := 89) (t := 96) (off := 7) (cc := .le) (by decide) rfl
theorem g47_92 : rg Z d rx_m47 92 [l0, some (.int x), l2] S (rz_mk h ι, w) = rg Z d rx_m47 93 [l0, some (.int x), l2] (.int x :: S) (rz_mk h ι, w) := rz_s1 fun _ => rfl
theorem g47_93 : rg Z d rx_m47 93 L S (rz_mk h ι, w) = rg Z d rx_m47 97 L S (rz_mk h ι, w) := rz_s1 fun _ => rfl
theorem g47_96 : rg Z d rx_m47 96 [l0, l1, some (.int x)] S (rz_mk h ι, w) = rg Z d rx_m47 97 [l0, l1, some (.int x)] (.int x :: S) (rz_mk h ι, w) := rz_s1 fun _ => rfl
theorem g47_97 : rg Z d rx_m47 97 L [.int x] (rz_mk h ι, w) = some (.inl (some (.int x)), (rz_mk h ι, w)) := rz_reti rfl rfl rfl
theorem e47 : rz_f Z (d + 1) 47 [.int s0, .int s1, .int s2] σ = rg Z d rx_m47 0 [some (.int s0), some (.int s1), some (.int s2)] [] σ := rz_f_eq rfl (Nat.le_of_ble_eq_true rfl)
theorem g48_0 : rg Z d rx_m48 0 [some (.ref a), l1, l2, l3] S (rz_mk h ι, w) = rg Z d rx_m48 1 [some (.ref a), l1, l2, l3] (.ref a :: S) (rz_mk h ι, w) := rz_s1 fun _ => rfl
theorem g48_1 : rg Z d rx_m48 1 [l0, some (.ref a), l2, l3] S (rz_mk h ι, w) = rg Z d rx_m48 2 [l0, some (.ref a), l2, l3] (.ref a :: S) (rz_mk h ι, w) := rz_s1 fun _ => rfl
theorem g48_2 : rg Z d rx_m48 2 [l0, l1, some (.int x), l3] S (rz_mk h ι, w) = rg Z d rx_m48 3 [l0, l1, some (.int x), l3] (.int x :: S) (rz_mk h ι, w) := rz_s1 fun _ => rfl
theorem g48_3 (c : rz_oc h a 5) : rg Z d rx_m48 3 L (v2 :: v1 :: .ref a :: []) (rz_mk h ι, w) = rz_k true (rz_f Z d 45 [.ref a, v1, v2] (rz_mk h ι, w)) (fun v σ' => rg Z d rx_m48 6 L (v.toList ++ []) σ') := rz_cv (pc := 3) (n := 2) (mi := 45) (S := v2 :: v1 :: .ref a :: []) (rest := []) rfl rfl (Nat.le_of_ble_eq_true rfl) (Nat.le_of_ble_eq_true rfl) c
theorem g48_6 : rg Z d rx_m48 6 [some (.ref a), l1, l2, l3] S (rz_mk h ι, w) = rg Z d rx_m48 7 [some (.ref a), l1, l2, l3] (.ref a :: S) (rz_mk h ι, w) := rz_s1 fun _ => rfl
theorem g48_7 : rg Z d rx_m48 7 [l0, some (.ref a), l2, l3] S (rz_mk h ι, w) = rg Z d rx_m48 8 [l0, some (.ref a), l2, l3] (.ref a :: S) (rz_mk h ι, w) := rz_s1 fun _ => rfl
theorem g48_8 : rg Z d rx_m48 8 [l0, l1, some (.int x), l3] S (rz_mk h ι, w) = rg Z d rx_m48 9 [l0, l1, some (.int x), l3] (.int x :: S) (rz_mk h ι, w) := rz_s1 fun _ => rfl
theorem g48_9 : rg Z d rx_m48 9 [l0, l1, l2, some (.int x)] S (rz_mk h ι, w) = rg Z d rx_m48 10 [l0, l1, l2, some (.int x)] (.int x :: S) (rz_mk h ι, w) := rz_s1 fun _ => rfl
theorem g48_10 : rg Z d rx_m48 10 L S (rz_mk h ι, w) = rg Z d rx_m48 11 L (.int 0 :: S) (rz_mk h ι, w) := rz_s1 fun _ => rfl
theorem g48_11 (c : rz_oc h a 8) : rg Z d rx_m48 11 L (v3 :: v2 :: v1 :: .ref a :: [.ref t0]) (rz_mk h ι, w) = rz_k true (rz_f Z d 73 [.ref a, v1, v2, v3] (rz_mk h ι, w)) (fun v σ' => rg Z d rx_m48 14 L (v.toList ++ [.ref t0]) σ') := rz_cv (pc := 11) (n := 3) (mi := 73) (S := v3 :: v2 :: v1 :: .ref a :: [.ref t0]) (rest := [.ref t0]) rfl rfl (Nat.le_of_ble_eq_true rfl) (Nat.le_of_ble_eq_true rfl) c
theorem g48_14 : rg Z d rx_m48 14 [l0, some (.ref a), l2, l3] S (rz_mk h ι, w) = rg Z d rx_m48 15 [l0, some (.ref a), l2, l3] (.ref a :: S) (rz_mk h ι, w) := rz_s1 fun _ => rfl
theorem g48_15 : rg Z d rx_m48 15 [l0, l1, some (.int x), l3] S (rz_mk h ι, w) = rg Z d rx_m48 16 [l0, l1, some (.int x), l3] (.int x :: S) (rz_mk h ι, w) := rz_s1 fun _ => rfl
theorem g48_16 : rg Z d rx_m48 16 [l0, l1, l2, some (.int x)] S (rz_mk h ι, w) = rg Z d rx_m48 17 [l0, l1, l2, some (.int x)] (.int x :: S) (rz_mk h ι, w) := rz_s1 fun _ => rfl
theorem g48_17 : rg Z d rx_m48 17 L S (rz_mk h ι, w) = rg Z d rx_m48 18 L (.int 1 :: S) (rz_mk h ι, w) := rz_s1 fun _ => rfl
theorem g48_18 (c : rz_oc h a 8) : rg Z d rx_m48 18 L (v3 :: v2 :: v1 :: .ref a :: [.int s0, .ref t1]) (rz_mk h ι, w) = rz_k true (rz_f Z d 73 [.ref a, v1, v2, v3] (rz_mk h ι, w)) (fun v σ' => rg Z d rx_m48 21 L (v.toList ++ [.int s0, .ref t1]) σ') := rz_cv (pc := 18) (n := 3) (mi := 73) (S := v3 :: v2 :: v1 :: .ref a :: [.int s0, .ref t1]) (rest := [.int s0, .ref t1]) rfl rfl (Nat.le_of_ble_eq_true rfl) (Nat.le_of_ble_eq_true rfl) c
theorem g48_21 : rg Z d rx_m48 21 [l0, some (.ref a), l2, l3] S (rz_mk h ι, w) = rg Z d rx_m48 22 [l0, some (.ref a), l2, l3] (.ref a :: S) (rz_mk h ι, w) := rz_s1 fun _ => rfl
theorem g48_22 : rg Z d rx_m48 22 [l0, l1, some (.int x), l3] S (rz_mk h ι, w) = rg Z d rx_m48 23 [l0, l1, some (.int x), l3] (.int x :: S) (rz_mk h ι, w) := rz_s1 fun _ => rfl
theorem g48_23 : rg Z d rx_m48 23 [l0, l1, l2, some (.int x)] S (rz_mk h ι, w) = rg Z d rx_m48 24 [l0, l1, l2, some (.int x)] (.int x :: S) (rz_mk h ι, w) := rz_s1 fun _ => rfl
theorem g48_24 : rg Z d rx_m48 24 L S (rz_mk h ι, w) = rg Z d rx_m48 25 L (.int 2 :: S) (rz_mk h ι, w) := rz_s1 fun _ => rfl
theorem g48_25 (c : rz_oc h a 8) : rg Z d rx_m48 25 L (v3 :: v2 :: v1 :: .ref a :: [.int s0, .int s1, .ref t2]) (rz_mk h ι, w) = rz_k true (rz_f Z d 73 [.ref a, v1, v2, v3] (rz_mk h ι, w)) (fun v σ' => rg Z d rx_m48 28 L (v.toList ++ [.int s0, .int s1, .ref t2]) σ') := rz_cv (pc := 25) (n := 3) (mi := 73) (S := v3 :: v2 :: v1 :: .ref a :: [.int s0, .int s1, .ref t2]) (rest := [.int s0, .int s1, .ref t2]) rfl rfl (Nat.le_of_ble_eq_true rfl) (Nat.le_of_ble_eq_true rfl) c
theorem g48_28 (c : rz_oc h a 5) : rg Z d rx_m48 28 L (v3 :: v2 :: v1 :: .ref a :: []) (rz_mk h ι, w) = rz_k true (rz_f Z d 46 [.ref a, v1, v2, v3] (rz_mk h ι, w)) (fun v σ' => rg Z d rx_m48 31 L (v.toList ++ []) σ') := rz_cv (pc := 28) (n := 3) (mi := 46) (S := v3 :: v2 :: v1 :: .ref a :: []) (rest := []) rfl rfl (Nat.le_of_ble_eq_true rfl) (Nat.le_of_ble_eq_true rfl) c
theorem g48_31 : rg Z d rx_m48 31 L [.int x] (rz_mk h ι, w) = some (.inl (some (.int x)), (rz_mk h ι, w)) := rz_reti rfl rfl rfl
theorem e48 : rz_f Z (d + 1) 48 [.ref t0, .ref t1, .int s2, .int s3] σ = rg Z d rx_m48 0 [some (.ref t0), some (.ref t1), some (.int s2), some (.int s3)] [] σ := rz_f_eq rfl (Nat.le_of_ble_eq_true rfl)
theorem g49_0 : rg Z d rx_m49 0 [l0, some (.ref a), l2] S (rz_mk h ι, w) = rg Z d rx_m49 1 [l0, some (.ref a), l2] (.ref a :: S) (rz_mk h ι, w) := rz_s1 fun _ => rfl
theorem g49_1 (c : rz_fI h a 8 5) : rg Z d rx_m49 1 L (.ref a :: S) (rz_mk h ι, w) = rg Z d rx_m49 4 L (.int (ι a 5) :: S) (rz_mk h ι, w) := rz_gI rfl (by decide) c
theorem g49_4 : rg Z d rx_m49 4 L S (rz_mk h ι, w) = rg Z d rx_m49 5 L (.int (-1) :: S) (rz_mk h ι, w) := rz_s1 fun _ => rfl
theorem g49_5 : rg Z d rx_m49 5 L (.int y :: .int x :: S) (rz_mk h ι, w) = if x = y then rg Z d rx_m49 16 L S (rz_mk h ι, w) else rg Z d rx_m49 8 L S (rz_mk h ι, w) := rz_if2 (pc := 5) (t := 16) (off := 11) (cc := .eq) (by decide) rfl
theorem g49_8 : rg Z d rx_m49 8 [l0, some (.ref a), l2] S (rz_mk h ι, w) = rg Z d rx_m49 9 [l0, some (.ref a), l2] (.ref a :: S) (rz_mk h ι, w) := rz_s1 fun _ => rfl
theorem g49_9 (c : rz_fI h a 8 5) : rg Z d rx_m49 9 L (.ref a :: S) (rz_mk h ι, w) = rg Z d rx_m49 12 L (.int (ι a 5) :: S) (rz_mk h ι, w) := rz_gI rfl (by decide) c
theorem g49_12 : rg Z d rx_m49 12 [l0, l1, some (.int x)] S (rz_mk h ι, w) = rg Z d rx_m49 13 [l0, l1, some (.int x)] (.int x :: S) (rz_mk h ι, w) := rz_s1 fun _ => rfl
theorem g49_13 : rg Z d rx_m49 13 L (.int y :: .int x :: S) (rz_mk h ι, w) = if x = y then rg Z d rx_m49 16 L S (rz_mk h ι, w) else rg Z d rx_m49 20 L S (rz_mk h ι, w) := rz_if2 (pc := 13) (t := 20) (off := 7) (cc := .ne) (by decide) rfl
theorem g49_16 : rg Z d rx_m49 16 L S (rz_mk h ι, w) = rg Z d rx_m49 17 L (.int 0 :: S) (rz_mk h ι, w) := rz_s1 fun _ => rfl
theorem g49_17 : rg Z d rx_m49 17 L S (rz_mk h ι, w) = rg Z d rx_m49 30 L S (rz_mk h ι, w) := rz_s1 fun _ => rfl
theorem g49_20 : rg Z d rx_m49 20 [some (.ref a), l1, l2] S (rz_mk h ι, w) = rg Z d rx_m49 21 [some (.ref a), l1, l2] (.ref a :: S) (rz_mk h ι, w) := rz_s1 fun _ => rfl
theorem g49_21 : rg Z d rx_m49 21 [l0, some (.ref a), l2] S (rz_mk h ι, w) = rg Z d rx_m49 22 [l0, some (.ref a), l2] (.ref a :: S) (rz_mk h ι, w) := rz_s1 fun _ => rfl
theorem g49_22 : rg Z d rx_m49 22 [l0, l1, some (.int x)] S (rz_mk h ι, w) = rg Z d rx_m49 23 [l0, l1, some (.int x)] (.int x :: S) (rz_mk h ι, w) := rz_s1 fun _ => rfl
theorem g49_23 : rg Z d rx_m49 23 [l0, some (.ref a), l2] S (rz_mk h ι, w) = rg Z d rx_m49 24 [l0, some (.ref a), l2] (.ref a :: S) (rz_mk h ι, w) := rz_s1 fun _ => rfl
theorem g49_24 (c : rz_fI h a 8 5) : rg Z d rx_m49 24 L (.ref a :: S) (rz_mk h ι, w) = rg Z d rx_m49 27 L (.int (ι a 5) :: S) (rz_mk h ι, w) := rz_gI rfl (by decide) c
theorem g49_27 (c : rz_oc h a 5) : rg Z d rx_m49 27 L (v3 :: v2 :: v1 :: .ref a :: []) (rz_mk h ι, w) = rz_k true (rz_f Z d 48 [.ref a, v1, v2, v3] (rz_mk h ι, w)) (fun v σ' => rg Z d rx_m49 30 L (v.toList ++ []) σ') := rz_cv (pc := 27) (n := 3) (mi := 48) (S := v3 :: v2 :: v1 :: .ref a :: []) (rest := []) rfl rfl (Nat.le_of_ble_eq_true rfl) (Nat.le_of_ble_eq_true rfl) c
theorem g49_30 : rg Z d rx_m49 30 L [.int x] (rz_mk h ι, w) = some (.inl (some (.int x)), (rz_mk h ι, w)) := rz_reti rfl rfl rfl
theorem e49 : rz_f Z (d + 1) 49 [.ref t0, .ref t1, .int s2] σ = rg Z d rx_m49 0 [some (.ref t0), some (.ref t1), some (.int s2)] [] σ := rz_f_eq rfl (Nat.le_of_ble_eq_true rfl)
theorem g50_0 : rg Z d rx_m50 0 [some (.ref a), l1, l2, l3] S (rz_mk h ι, w) = rg Z d rx_m50 1 [some (.ref a), l1, l2, l3] (.ref a :: S) (rz_mk h ι, w) := rz_s1 fun _ => rfl
theorem g50_1 : rg Z d rx_m50 1 L S (rz_mk h ι, w) = rg Z d rx_m50 2 L (.int 0 :: S) (rz_mk h ι, w) := rz_s1 fun _ => rfl
theorem g50_2 : rg Z d rx_m50 2 L S (rz_mk h ι, w) = rg Z d rx_m50 3 L (.int 0 :: S) (rz_mk h ι, w) := rz_s1 fun _ => rfl
theorem g50_3 : rg Z d rx_m50 3 [l0, some (.ref a), l2, l3] S (rz_mk h ι, w) = rg Z d rx_m50 4 [l0, some (.ref a), l2, l3] (.ref a :: S) (rz_mk h ι, w) := rz_s1 fun _ => rfl
theorem g50_4 (c : rz_fI h a 8 6) : rg Z d rx_m50 4 L (.ref a :: S) (rz_mk h ι, w) = rg Z d rx_m50 7 L (.int (ι a 6) :: S) (rz_mk h ι, w) := rz_gI rfl (by decide) c
theorem g50_7 : rg Z d rx_m50 7 [l0, some (.ref a), l2, l3] S (rz_mk h ι, w) = rg Z d rx_m50 8 [l0, some (.ref a), l2, l3] (.ref a :: S) (rz_mk h ι, w) := rz_s1 fun _ => rfl
theorem g50_8 (c : rz_fI h a 8 7) : rg Z d rx_m50 8 L (.ref a :: S) (rz_mk h ι, w) = rg Z d rx_m50 11 L (.int (ι a 7) :: S) (rz_mk h ι, w) := rz_gI rfl (by decide) c
theorem g50_11 : rg Z d rx_m50 11 [l0, some (.ref a), l2, l3] S (rz_mk h ι, w) = rg Z d rx_m50 12 [l0, some (.ref a), l2, l3] (.ref a :: S) (rz_mk h ι, w) := rz_s1 fun _ => rfl
theorem g50_12 (c : rz_fI h a 8 3) : rg Z d rx_m50 12 L (.ref a :: S) (rz_mk h ι, w) = rg Z d rx_m50 15 L (.int (ι a 3) :: S) (rz_mk h ι, w) := rz_gI rfl (by decide) c
theorem g50_15 (c : rz_oc h a 5) : rg Z d rx_m50 15 L (v5 :: v4 :: v3 :: v2 :: v1 :: .ref a :: []) (rz_mk h ι, w) = rz_k true (rz_f Z d 44 [.ref a, v1, v2, v3, v4, v5] (rz_mk h ι, w)) (fun v σ' => rg Z d rx_m50 18 L (v.toList ++ []) σ') := rz_cv (pc := 15) (n := 5) (mi := 44) (S := v5 :: v4 :: v3 :: v2 :: v1 :: .ref a :: []) (rest := []) rfl rfl (Nat.le_of_ble_eq_true rfl) (Nat.le_of_ble_eq_true rfl) c
theorem g50_18 : rg Z d rx_m50 18 [some (.ref a), l1, l2, l3] S (rz_mk h ι, w) = rg Z d rx_m50 19 [some (.ref a), l1, l2, l3] (.ref a :: S) (rz_mk h ι, w) := rz_s1 fun _ => rfl
theorem g50_19 : rg Z d rx_m50 19 [l0, some (.ref a), l2, l3] S (rz_mk h ι, w) = rg Z d rx_m50 20 [l0, some (.ref a), l2, l3] (.ref a :: S) (rz_mk h ι, w) := rz_s1 fun _ => rfl
theorem g50_20 : rg Z d rx_m50 20 [l0, l1, some (.int x), l3] S (rz_mk h ι, w) = rg Z d rx_m50 21 [l0, l1, some (.int x), l3] (.int x :: S) (rz_mk h ι, w) := rz_s1 fun _ => rfl
theorem g50_21 : rg Z d rx_m50 21 [l0, l1, l2, some (.int x)] S (rz_mk h ι, w) = rg Z d rx_m50 22 [l0, l1, l2, some (.int x)] (.int x :: S) (rz_mk h ι, w) := rz_s1 fun _ => rfl
theorem g50_22 : rg Z d rx_m50 22 L S (rz_mk h ι, w) = rg Z d rx_m50 23 L (.int 0 :: S) (rz_mk h ι, w) := rz_s1 fun _ => rfl
theorem g50_23 (c : rz_oc h a 8) : rg Z d rx_m50 23 L (v3 :: v2 :: v1 :: .ref a :: [.ref t0]) (rz_mk h ι, w) = rz_k true (rz_f Z d 78 [.ref a, v1, v2, v3] (rz_mk h ι, w)) (fun v σ' => rg Z d rx_m50 26 L (v.toList ++ [.ref t0]) σ') := rz_cv (pc := 23) (n := 3) (mi := 78) (S := v3 :: v2 :: v1 :: .ref a :: [.ref t0]) (rest := [.ref t0]) rfl rfl (Nat.le_of_ble_eq_true rfl) (Nat.le_of_ble_eq_true rfl) c
theorem g50_26 : rg Z d rx_m50 26 [l0, some (.ref a), l2, l3] S (rz_mk h ι, w) = rg Z d rx_m50 27 [l0, some (.ref a), l2, l3] (.ref a :: S) (rz_mk h ι, w) := rz_s1 fun _ => rfl
theorem g50_27 : rg Z d rx_m50 27 [l0, some (.ref a), l2, l3] S (rz_mk h ι, w) = rg Z d rx_m50 28 [l0, some (.ref a), l2, l3] (.ref a :: S) (rz_mk h ι, w) := rz_s1 fun _ => rfl
theorem g50_28 (c : rz_fI h a 8 5) : rg Z d rx_m50 28 L (.ref a :: S) (rz_mk h ι, w) = rg Z d rx_m50 31 L (.int (ι a 5) :: S) (rz_mk h ι, w) := rz_gI rfl (by decide) c
theorem g50_31 : rg Z d rx_m50 31 L S (rz_mk h ι, w) = rg Z d rx_m50 32 L (.int 0 :: S) (rz_mk h ι, w) := rz_s1 fun _ => rfl
theorem g50_32 (c : rz_oc h a 8) : rg Z d rx_m50 32 L (v2 :: v1 :: .ref a :: [.int s0, .ref t1]) (rz_mk h ι, w) = rz_k true (rz_f Z d 70 [.ref a, v1, v2] (rz_mk h ι, w)) (fun v σ' => rg Z d rx_m50 35 L (v.toList ++ [.int s0, .ref t1]) σ') := rz_cv (pc := 32) (n := 2) (mi := 70) (S := v2 :: v1 :: .ref a :: [.int s0, .ref t1]) (rest := [.int s0, .ref t1]) rfl rfl (Nat.le_of_ble_eq_true rfl) (Nat.le_of_ble_eq_true rfl) c
theorem g50_35 : rg Z d rx_m50 35 L (.int y :: .int x :: S) (rz_mk h ι, w) = rg Z d rx_m50 36 L (.int (x - y) :: S) (rz_mk h ι, w) := rz_s1 fun _ => rfl
theorem g50_36 : rg Z d rx_m50 36 L (.int x :: [.ref t0]) (rz_mk h ι, w) = rg Z d rx_m50 39 L (.int (if 0 ≤ x then x else 0 - x) :: [.ref t0]) (rz_mk h ι, w) := rz_abs rfl (Nat.le_of_ble_eq_true rfl)
theorem g50_39 : rg Z d rx_m50 39 [l0, some (.ref a), l2, l3] S (rz_mk h ι, w) = rg Z d rx_m50 40 [l0, some (.ref a), l2, l3] (.ref a :: S) (rz_mk h ι, w) := rz_s1 fun _ => rfl
theorem g50_40 : rg Z d rx_m50 40 [l0, l1, some (.int x), l3] S (rz_mk h ι, w) = rg Z d rx_m50 41 [l0, l1, some (.int x), l3] (.int x :: S) (rz_mk h ι, w) := rz_s1 fun _ => rfl
theorem g50_41 : rg Z d rx_m50 41 [l0, l1, l2, some (.int x)] S (rz_mk h ι, w) = rg Z d rx_m50 42 [l0, l1, l2, some (.int x)] (.int x :: S) (rz_mk h ι, w) := rz_s1 fun _ => rfl
theorem g50_42 : rg Z d rx_m50 42 L S (rz_mk h ι, w) = rg Z d rx_m50 43 L (.int 1 :: S) (rz_mk h ι, w) := rz_s1 fun _ => rfl
theorem g50_43 (c : rz_oc h a 8) : rg Z d rx_m50 43 L (v3 :: v2 :: v1 :: .ref a :: [.int s0, .ref t1]) (rz_mk h ι, w) = rz_k true (rz_f Z d 78 [.ref a, v1, v2, v3] (rz_mk h ι, w)) (fun v σ' => rg Z d rx_m50 46 L (v.toList ++ [.int s0, .ref t1]) σ') := rz_cv (pc := 43) (n := 3) (mi := 78) (S := v3 :: v2 :: v1 :: .ref a :: [.int s0, .ref t1]) (rest := [.int s0, .ref t1]) rfl rfl (Nat.le_of_ble_eq_true rfl) (Nat.le_of_ble_eq_true rfl) c
theorem g50_46 : rg Z d rx_m50 46 [l0, some (.ref a), l2, l3] S (rz_mk h ι, w) = rg Z d rx_m50 47 [l0, some (.ref a), l2, l3] (.ref a :: S) (rz_mk h ι, w) := rz_s1 fun _ => rfl
theorem g50_47 : rg Z d rx_m50 47 [l0, some (.ref a), l2, l3] S (rz_mk h ι, w) = rg Z d rx_m50 48 [l0, some (.ref a), l2, l3] (.ref a :: S) (rz_mk h ι, w) := rz_s1 fun _ => rfl
theorem g50_48 (c : rz_fI h a 8 5) : rg Z d rx_m50 48 L (.ref a :: S) (rz_mk h ι, w) = rg Z d rx_m50 51 L (.int (ι a 5) :: S) (rz_mk h ι, w) := rz_gI rfl (by decide) c
theorem g50_51 : rg Z d rx_m50 51 L S (rz_mk h ι, w) = rg Z d rx_m50 52 L (.int 1 :: S) (rz_mk h ι, w) := rz_s1 fun _ => rfl
theorem g50_52 (c : rz_oc h a 8) : rg Z d rx_m50 52 L (v2 :: v1 :: .ref a :: [.int s0, .int s1, .ref t2]) (rz_mk h ι, w) = rz_k true (rz_f Z d 70 [.ref a, v1, v2] (rz_mk h ι, w)) (fun v σ' => rg Z d rx_m50 55 L (v.toList ++ [.int s0, .int s1, .ref t2]) σ') := rz_cv (pc := 52) (n := 2) (mi := 70) (S := v2 :: v1 :: .ref a :: [.int s0, .int s1, .ref t2]) (rest := [.int s0, .int s1, .ref t2]) rfl rfl (Nat.le_of_ble_eq_true rfl) (Nat.le_of_ble_eq_true rfl) c
theorem g50_55 : rg Z d rx_m50 55 L (.int y :: .int x :: S) (rz_mk h ι, w) = rg Z d rx_m50 56 L (.int (x - y) :: S) (rz_mk h ι, w) := rz_s1 fun _ => rfl
theorem g50_56 : rg Z d rx_m50 56 L (.int x :: [.int s0, .ref t1]) (rz_mk h ι, w) = rg Z d rx_m50 59 L (.int (if 0 ≤ x then x else 0 - x) :: [.int s0, .ref t1]) (rz_mk h ι, w) := rz_abs rfl (Nat.le_of_ble_eq_true rfl)
theorem g50_59 : rg Z d rx_m50 59 [l0, some (.ref a), l2, l3] S (rz_mk h ι, w) = rg Z d rx_m50 60 [l0, some (.ref a), l2, l3] (.ref a :: S) (rz_mk h ι, w) := rz_s1 fun _ => rfl
theorem g50_60 : rg Z d rx_m50 60 [l0, l1, some (.int x), l3] S (rz_mk h ι, w) = rg Z d rx_m50 61 [l0, l1, some (.int x), l3] (.int x :: S) (rz_mk h ι, w) := rz_s1 fun _ => rfl
theorem g50_61 : rg Z d rx_m50 61 [l0, l1, l2, some (.int x)] S (rz_mk h ι, w) = rg Z d rx_m50 62 [l0, l1, l2, some (.int x)] (.int x :: S) (rz_mk h ι, w) := rz_s1 fun _ => rfl
theorem g50_62 : rg Z d rx_m50 62 L S (rz_mk h ι, w) = rg Z d rx_m50 63 L (.int 2 :: S) (rz_mk h ι, w) := rz_s1 fun _ => rfl
theorem g50_63 (c : rz_oc h a 8) : rg Z d rx_m50 63 L (v3 :: v2 :: v1 :: .ref a :: [.int s0, .int s1, .ref t2]) (rz_mk h ι, w) = rz_k true (rz_f Z d 78 [.ref a, v1, v2, v3] (rz_mk h ι, w)) (fun v σ' => rg Z d rx_m50 66 L (v.toList ++ [.int s0, .int s1, .ref t2]) σ') := rz_cv (pc := 63) (n := 3) (mi := 78) (S := v3 :: v2 :: v1 :: .ref a :: [.int s0, .int s1, .ref t2]) (rest := [.int s0, .int s1, .ref t2]) rfl rfl (Nat.le_of_ble_eq_true rfl) (Nat.le_of_ble_eq_true rfl) c
theorem g50_66 : rg Z d rx_m50 66 [l0, some (.ref a), l2, l3] S (rz_mk h ι, w) = rg Z d rx_m50 67 [l0, some (.ref a), l2, l3] (.ref a :: S) (rz_mk h ι, w) := rz_s1 fun _ => rfl
theorem g50_67 : rg Z d rx_m50 67 [l0, some (.ref a), l2, l3] S (rz_mk h ι, w) = rg Z d rx_m50 68 [l0, some (.ref a), l2, l3] (.ref a :: S) (rz_mk h ι, w) := rz_s1 fun _ => rfl
theorem g50_68 (c : rz_fI h a 8 5) : rg Z d rx_m50 68 L (.ref a :: S) (rz_mk h ι, w) = rg Z d rx_m50 71 L (.int (ι a 5) :: S) (rz_mk h ι, w) := rz_gI rfl (by decide) c
theorem g50_71 : rg Z d rx_m50 71 L S (rz_mk h ι, w) = rg Z d rx_m50 72 L (.int 2 :: S) (rz_mk h ι, w) := rz_s1 fun _ => rfl
theorem g50_72 (c : rz_oc h a 8) : rg Z d rx_m50 72 L (v2 :: v1 :: .ref a :: [.int s0, .int s1, .int s2, .ref t3]) (rz_mk h ι, w) = rz_k true (rz_f Z d 70 [.ref a, v1, v2] (rz_mk h ι, w)) (fun v σ' => rg Z d rx_m50 75 L (v.toList ++ [.int s0, .int s1, .int s2, .ref t3]) σ') := rz_cv (pc := 72) (n := 2) (mi := 70) (S := v2 :: v1 :: .ref a :: [.int s0, .int s1, .int s2, .ref t3]) (rest := [.int s0, .int s1, .int s2, .ref t3]) rfl rfl (Nat.le_of_ble_eq_true rfl) (Nat.le_of_ble_eq_true rfl) c
theorem g50_75 : rg Z d rx_m50 75 L (.int y :: .int x :: S) (rz_mk h ι, w) = rg Z d rx_m50 76 L (.int (x - y) :: S) (rz_mk h ι, w) := rz_s1 fun _ => rfl
theorem g50_76 : rg Z d rx_m50 76 L (.int x :: [.int s0, .int s1, .ref t2]) (rz_mk h ι, w) = rg Z d rx_m50 79 L (.int (if 0 ≤ x then x else 0 - x) :: [.int s0, .int s1, .ref t2]) (rz_mk h ι, w) := rz_abs rfl (Nat.le_of_ble_eq_true rfl)
theorem g50_79 (c : rz_oc h a 5) : rg Z d rx_m50 79 L (v3 :: v2 :: v1 :: .ref a :: []) (rz_mk h ι, w) = rz_k true (rz_f Z d 46 [.ref a, v1, v2, v3] (rz_mk h ι, w)) (fun v σ' => rg Z d rx_m50 82 L (v.toList ++ []) σ') := rz_cv (pc := 79) (n := 3) (mi := 46) (S := v3 :: v2 :: v1 :: .ref a :: []) (rest := []) rfl rfl (Nat.le_of_ble_eq_true rfl) (Nat.le_of_ble_eq_true rfl) c
theorem g50_82 : rg Z d rx_m50 82 L [.int x] (rz_mk h ι, w) = some (.inl (some (.int x)), (rz_mk h ι, w)) := rz_reti rfl rfl rfl
theorem e50 : rz_f Z (d + 1) 50 [.ref t0, .ref t1, .int s2, .int s3] σ = rg Z d rx_m50 0 [some (.ref t0), some (.ref t1), some (.int s2), some (.int s3)] [] σ := rz_f_eq rfl (Nat.le_of_ble_eq_true rfl)
theorem g51_0 : rg Z d rx_m51 0 L S (rz_mk h ι, w) = rg Z d rx_m51 1 L (.int (-1) :: S) (rz_mk h ι, w) := rz_s1 fun _ => rfl
theorem g51_1 : rg Z d rx_m51 1 [l0, l1, some (.int z), l3, l4, l5, l6] (.int x :: S) (rz_mk h ι, w) = rg Z d rx_m51 2 [l0, l1, some (.int z), some (.int x), l4, l5, l6] S (rz_mk h ι, w) := rz_s1 fun _ => rfl
theorem g51_2 : rg Z d rx_m51 2 L S (rz_mk h ι, w) = rg Z d rx_m51 3 L (.int (-1) :: S) (rz_mk h ι, w) := rz_s1 fun _ => rfl
theorem g51_3 : rg Z d rx_m51 3 [l0, l1, l2, some (.int z), l4, l5, l6] (.int x :: S) (rz_mk h ι, w) = rg Z d rx_m51 5 [l0, l1, l2, some (.int z), some (.int x), l5, l6] S (rz_mk h ι, w) := rz_s1 fun _ => rfl
theorem g51_5 : rg Z d rx_m51 5 L S (rz_mk h ι, w) = rg Z d rx_m51 6 L (.int 0 :: S) (rz_mk h ι, w) := rz_s1 fun _ => rfl
theorem g51_6 : rg Z d rx_m51 6 [l0, l1, l2, l3, some (.int z), l5, l6] (.int x :: S) (rz_mk h ι, w) = rg Z d rx_m51 8 [l0, l1, l2, l3, some (.int z), some (.int x), l6] S (rz_mk h ι, w) := rz_s1 fun _ => rfl
theorem g51_8 : rg Z d rx_m51 8 [l0, l1, l2, l3, l4, some (.int x), l6] S (rz_mk h ι, w) = rg Z d rx_m51 10 [l0, l1, l2, l3, l4, some (.int x), l6] (.int x :: S) (rz_mk h ι, w) := rz_s1 fun _ => rfl
theorem g51_10 : rg Z d rx_m51 10 [l0, some (.ref a), l2, l3, l4, l5, l6] S (rz_mk h ι, w) = rg Z d rx_m51 11 [l0, some (.ref a), l2, l3, l4, l5, l6] (.ref a :: S) (rz_mk h ι, w) := rz_s1 fun _ => rfl
theorem g51_11 (c : rz_fI h a 8 3) : rg Z d rx_m51 11 L (.ref a :: S) (rz_mk h ι, w) = rg Z d rx_m51 14 L (.int (ι a 3) :: S) (rz_mk h ι, w) := rz_gI rfl (by decide) c
theorem g51_14 : rg Z d rx_m51 14 L (.int y :: .int x :: S) (rz_mk h ι, w) = if x < y then rg Z d rx_m51 17 L S (rz_mk h ι, w) else rg Z d rx_m51 71 L S (rz_mk h ι, w) := rz_if2 (pc := 14) (t := 71) (off := 57) (cc := .ge) (by decide) rfl
theorem g51_17 : rg Z d rx_m51 17 [l0, l1, some (.int x), l3, l4, l5, l6] S (rz_mk h ι, w) = rg Z d rx_m51 18 [l0, l1, some (.int x), l3, l4, l5, l6] (.int x :: S) (rz_mk h ι, w) := rz_s1 fun _ => rfl
theorem g51_18 : rg Z d rx_m51 18 L S (rz_mk h ι, w) = rg Z d rx_m51 19 L (.int (-1) :: S) (rz_mk h ι, w) := rz_s1 fun _ => rfl
theorem g51_19 : rg Z d rx_m51 19 L (.int y :: .int x :: S) (rz_mk h ι, w) = if x = y then rg Z d rx_m51 71 L S (rz_mk h ι, w) else rg Z d rx_m51 22 L S (rz_mk h ι, w) := rz_if2 (pc := 19) (t := 71) (off := 52) (cc := .eq) (by decide) rfl
theorem g51_22 : rg Z d rx_m51 22 [l0, some (.ref a), l2, l3, l4, l5, l6] S (rz_mk h ι, w) = rg Z d rx_m51 23 [l0, some (.ref a), l2, l3, l4, l5, l6] (.ref a :: S) (rz_mk h ι, w) := rz_s1 fun _ => rfl
theorem g51_23 : rg Z d rx_m51 23 [l0, l1, l2, l3, l4, some (.int x), l6] S (rz_mk h ι, w) = rg Z d rx_m51 25 [l0, l1, l2, l3, l4, some (.int x), l6] (.int x :: S) (rz_mk h ι, w) := rz_s1 fun _ => rfl
theorem g51_25 (c : rz_oc h a 8) : rg Z d rx_m51 25 L (v1 :: .ref a :: []) (rz_mk h ι, w) = rz_k true (rz_f Z d 68 [.ref a, v1] (rz_mk h ι, w)) (fun v σ' => rg Z d rx_m51 28 L (v.toList ++ []) σ') := rz_cv (pc := 25) (n := 1) (mi := 68) (S := v1 :: .ref a :: []) (rest := []) rfl rfl (Nat.le_of_ble_eq_true rfl) (Nat.le_of_ble_eq_true rfl) c
theorem g51_28 : rg Z d rx_m51 28 L (.int x :: S) (rz_mk h ι, w) = if x = 0 then rg Z d rx_m51 48 L S (rz_mk h ι, w) else rg Z d rx_m51 31 L S (rz_mk h ι, w) := rz_if1 (pc := 28) (t := 48) (off := 20) (cc := .eq) (by decide) rfl
theorem g51_31 : rg Z d rx_m51 31 [l0, l1, l2, l3, l4, some (.int x), l6] S (rz_mk h ι, w) = rg Z d rx_m51 33 [l0, l1, l2, l3, l4, some (.int x), l6] (.int x :: S) (rz_mk h ι, w) := rz_s1 fun _ => rfl
theorem g51_33 : rg Z d rx_m51 33 [l0, l1, some (.int x), l3, l4, l5, l6] S (rz_mk h ι, w) = rg Z d rx_m51 34 [l0, l1, some (.int x), l3, l4, l5, l6] (.int x :: S) (rz_mk h ι, w) := rz_s1 fun _ => rfl
theorem g51_34 : rg Z d rx_m51 34 L (.int y :: .int x :: S) (rz_mk h ι, w) = if x = y then rg Z d rx_m51 48 L S (rz_mk h ι, w) else rg Z d rx_m51 37 L S (rz_mk h ι, w) := rz_if2 (pc := 34) (t := 48) (off := 14) (cc := .eq) (by decide) rfl
theorem g51_37 : rg Z d rx_m51 37 [some (.ref a), l1, l2, l3, l4, l5, l6] S (rz_mk h ι, w) = rg Z d rx_m51 38 [some (.ref a), l1, l2, l3, l4, l5, l6] (.ref a :: S) (rz_mk h ι, w) := rz_s1 fun _ => rfl
theorem g51_38 : rg Z d rx_m51 38 [l0, some (.ref a), l2, l3, l4, l5, l6] S (rz_mk h ι, w) = rg Z d rx_m51 39 [l0, some (.ref a), l2, l3, l4, l5, l6] (.ref a :: S) (rz_mk h ι, w) := rz_s1 fun _ => rfl
theorem g51_39 : rg Z d rx_m51 39 [l0, l1, l2, l3, l4, some (.int x), l6] S (rz_mk h ι, w) = rg Z d rx_m51 41 [l0, l1, l2, l3, l4, some (.int x), l6] (.int x :: S) (rz_mk h ι, w) := rz_s1 fun _ => rfl
theorem g51_41 : rg Z d rx_m51 41 [l0, l1, some (.int x), l3, l4, l5, l6] S (rz_mk h ι, w) = rg Z d rx_m51 42 [l0, l1, some (.int x), l3, l4, l5, l6] (.int x :: S) (rz_mk h ι, w) := rz_s1 fun _ => rfl
theorem g51_42 (c : rz_oc h a 5) : rg Z d rx_m51 42 L (v3 :: v2 :: v1 :: .ref a :: []) (rz_mk h ι, w) = rz_k true (rz_f Z d 48 [.ref a, v1, v2, v3] (rz_mk h ι, w)) (fun v σ' => rg Z d rx_m51 45 L (v.toList ++ []) σ') := rz_cv (pc := 42) (n := 3) (mi := 48) (S := v3 :: v2 :: v1 :: .ref a :: []) (rest := []) rfl rfl (Nat.le_of_ble_eq_true rfl) (Nat.le_of_ble_eq_true rfl) c
theorem g51_45 : rg Z d rx_m51 45 L S (rz_mk h ι, w) = rg Z d rx_m51 49 L S (rz_mk h ι, w) := rz_s1 fun _ => rfl
theorem g51_48 : rg Z d rx_m51 48 L S (rz_mk h ι, w) = rg Z d rx_m51 49 L (.int (-1) :: S) (rz_mk h ι, w) := rz_s1 fun _ => rfl
theorem g51_49 : rg Z d rx_m51 49 [l0, l1, l2, l3, l4, some (.int z), l6] (.int x :: S) (rz_mk h ι, w) = rg Z d rx_m51 51 [l0, l1, l2, l3, l4, some (.int z), some (.int x)] S (rz_mk h ι, w) := rz_s1 fun _ => rfl
theorem g51_51 : rg Z d rx_m51 51 [l0, l1, l2, l3, l4, l5, some (.int x)] S (rz_mk h ι, w) = rg Z d rx_m51 53 [l0, l1, l2, l3, l4, l5, some (.int x)] (.int x :: S) (rz_mk h ι, w) := rz_s1 fun _ => rfl
theorem g51_53 : rg Z d rx_m51 53 [l0, l1, l2, l3, some (.int x), l5, l6] S (rz_mk h ι, w) = rg Z d rx_m51 55 [l0, l1, l2, l3, some (.int x), l5, l6] (.int x :: S) (rz_mk h ι, w) := rz_s1 fun _ => rfl
theorem g51_55 : rg Z d rx_m51 55 L (.int y :: .int x :: S) (rz_mk h ι, w) = if y < x then rg Z d rx_m51 58 L S (rz_mk h ι, w) else rg Z d rx_m51 65 L S (rz_mk h ι, w) := rz_if2 (pc := 55) (t := 65) (off := 10) (cc := .le) (by decide) rfl
theorem g51_58 : rg Z d rx_m51 58 [l0, l1, l2, l3, l4, l5, some (.int x)] S (rz_mk h ι, w) = rg Z d rx_m51 60 [l0, l1, l2, l3, l4, l5, some (.int x)] (.int x :: S) (rz_mk h ι, w) := rz_s1 fun _ => rfl
theorem g51_60 : rg Z d rx_m51 60 [l0, l1, l2, some (.int z), l4, l5, l6] (.int x :: S) (rz_mk h ι, w) = rg Z d rx_m51 62 [l0, l1, l2, some (.int z), some (.int x), l5, l6] S (rz_mk h ι, w) := rz_s1 fun _ => rfl
theorem g51_62 : rg Z d rx_m51 62 [l0, l1, l2, l3, l4, some (.int x), l6] S (rz_mk h ι, w) = rg Z d rx_m51 64 [l0, l1, l2, l3, l4, some (.int x), l6] (.int x :: S) (rz_mk h ι, w) := rz_s1 fun _ => rfl
theorem g51_64 : rg Z d rx_m51 64 [l0, l1, some (.int z), l3, l4, l5, l6] (.int x :: S) (rz_mk h ι, w) = rg Z d rx_m51 65 [l0, l1, some (.int z), some (.int x), l4, l5, l6] S (rz_mk h ι, w) := rz_s1 fun _ => rfl
theorem g51_65 : rg Z d rx_m51 65 [l0, l1, l2, l3, some (.int z), some (.int x), l6] S (rz_mk h ι, w) = rg Z d rx_m51 68 [l0, l1, l2, l3, some (.int z), some (.int (x + 1)), l6] S (rz_mk h ι, w) := rz_s1 fun _ => rfl
theorem g51_68 : rg Z d rx_m51 68 L S (rz_mk h ι, w) = rg Z d rx_m51 8 L S (rz_mk h ι, w) := rz_s1 fun _ => rfl
theorem g51_71 : rg Z d rx_m51 71 [l0, l1, l2, some (.int x), l4, l5, l6] S (rz_mk h ι, w) = rg Z d rx_m51 72 [l0, l1, l2, some (.int x), l4, l5, l6] (.int x :: S) (rz_mk h ι, w) := rz_s1 fun _ => rfl
theorem g51_72 : rg Z d rx_m51 72 L [.int x] (rz_mk h ι, w) = some (.inl (some (.int x)), (rz_mk h ι, w)) := rz_reti rfl rfl rfl
theorem e51 : rz_f Z (d + 1) 51 [.ref t0, .ref t1, .int s2] σ = rg Z d rx_m51 0 [some (.ref t0), some (.ref t1), some (.int s2), none, none, none, none] [] σ := rz_f_eq rfl (Nat.le_of_ble_eq_true rfl)
theorem g52_0 : rg Z d rx_m52 0 L S (rz_mk h ι, w) = rg Z d rx_m52 1 L (.int 0 :: S) (rz_mk h ι, w) := rz_s1 fun _ => rfl
theorem g52_1 : rg Z d rx_m52 1 [l0, l1, l2, some (.int z), l4, l5] (.int x :: S) (rz_mk h ι, w) = rg Z d rx_m52 3 [l0, l1, l2, some (.int z), some (.int x), l5] S (rz_mk h ι, w) := rz_s1 fun _ => rfl
theorem g52_3 : rg Z d rx_m52 3 L S (rz_mk h ι, w) = rg Z d rx_m52 4 L (.int 0 :: S) (rz_mk h ι, w) := rz_s1 fun _ => rfl
theorem g52_4 : rg Z d rx_m52 4 [l0, l1, l2, l3, some (.int z), l5] (.int x :: S) (rz_mk h ι, w) = rg Z d rx_m52 6 [l0, l1, l2, l3, some (.int z), some (.int x)] S (rz_mk h ι, w) := rz_s1 fun _ => rfl
theorem g52_6 : rg Z d rx_m52 6 [l0, l1, l2, l3, l4, some (.int x)] S (rz_mk h ι, w) = rg Z d rx_m52 8 [l0, l1, l2, l3, l4, some (.int x)] (.int x :: S) (rz_mk h ι, w) := rz_s1 fun _ => rfl
theorem g52_8 : rg Z d rx_m52 8 [l0, some (.ref a), l2, l3, l4, l5] S (rz_mk h ι, w) = rg Z d rx_m52 9 [l0, some (.ref a), l2, l3, l4, l5] (.ref a :: S) (rz_mk h ι, w) := rz_s1 fun _ => rfl
theorem g52_9 (c : rz_fI h a 8 3) : rg Z d rx_m52 9 L (.ref a :: S) (rz_mk h ι, w) = rg Z d rx_m52 12 L (.int (ι a 3) :: S) (rz_mk h ι, w) := rz_gI rfl (by decide) c
theorem g52_12 : rg Z d rx_m52 12 L (.int y :: .int x :: S) (rz_mk h ι, w) = if x < y then rg Z d rx_m52 15 L S (rz_mk h ι, w) else rg Z d rx_m52 62 L S (rz_mk h ι, w) := rz_if2 (pc := 12) (t := 62) (off := 50) (cc := .ge) (by decide) rfl
theorem g52_15 : rg Z d rx_m52 15 [l0, l1, some (.int x), l3, l4, l5] S (rz_mk h ι, w) = rg Z d rx_m52 16 [l0, l1, some (.int x), l3, l4, l5] (.int x :: S) (rz_mk h ι, w) := rz_s1 fun _ => rfl
theorem g52_16 : rg Z d rx_m52 16 L S (rz_mk h ι, w) = rg Z d rx_m52 17 L (.int (-1) :: S) (rz_mk h ι, w) := rz_s1 fun _ => rfl
theorem g52_17 : rg Z d rx_m52 17 L (.int y :: .int x :: S) (rz_mk h ι, w) = if x = y then rg Z d rx_m52 62 L S (rz_mk h ι, w) else rg Z d rx_m52 20 L S (rz_mk h ι, w) := rz_if2 (pc := 17) (t := 62) (off := 45) (cc := .eq) (by decide) rfl
theorem g52_20 : rg Z d rx_m52 20 [l0, some (.ref a), l2, l3, l4, l5] S (rz_mk h ι, w) = rg Z d rx_m52 21 [l0, some (.ref a), l2, l3, l4, l5] (.ref a :: S) (rz_mk h ι, w) := rz_s1 fun _ => rfl
theorem g52_21 : rg Z d rx_m52 21 [l0, l1, l2, l3, l4, some (.int x)] S (rz_mk h ι, w) = rg Z d rx_m52 23 [l0, l1, l2, l3, l4, some (.int x)] (.int x :: S) (rz_mk h ι, w) := rz_s1 fun _ => rfl
theorem g52_23 (c : rz_oc h a 8) : rg Z d rx_m52 23 L (v1 :: .ref a :: []) (rz_mk h ι, w) = rz_k true (rz_f Z d 68 [.ref a, v1] (rz_mk h ι, w)) (fun v σ' => rg Z d rx_m52 26 L (v.toList ++ []) σ') := rz_cv (pc := 23) (n := 1) (mi := 68) (S := v1 :: .ref a :: []) (rest := []) rfl rfl (Nat.le_of_ble_eq_true rfl) (Nat.le_of_ble_eq_true rfl) c
theorem g52_26 : rg Z d rx_m52 26 L (.int x :: S) (rz_mk h ι, w) = if x = 0 then rg Z d rx_m52 56 L S (rz_mk h ι, w) else rg Z d rx_m52 29 L S (rz_mk h ι, w) := rz_if1 (pc := 26) (t := 56) (off := 30) (cc := .eq) (by decide) rfl
theorem g52_29 : rg Z d rx_m52 29 [l0, l1, l2, l3, l4, some (.int x)] S (rz_mk h ι, w) = rg Z d rx_m52 31 [l0, l1, l2, l3, l4, some (.int x)] (.int x :: S) (rz_mk h ι, w) := rz_s1 fun _ => rfl
theorem g52_31 : rg Z d rx_m52 31 [l0, l1, some (.int x), l3, l4, l5] S (rz_mk h ι, w) = rg Z d rx_m52 32 [l0, l1, some (.int x), l3, l4, l5] (.int x :: S) (rz_mk h ι, w) := rz_s1 fun _ => rfl
theorem g52_32 : rg Z d rx_m52 32 L (.int y :: .int x :: S) (rz_mk h ι, w) = if x = y then rg Z d rx_m52 56 L S (rz_mk h ι, w) else rg Z d rx_m52 35 L S (rz_mk h ι, w) := rz_if2 (pc := 32) (t := 56) (off := 24) (cc := .eq) (by decide) rfl
theorem g52_35 : rg Z d rx_m52 35 [some (.ref a), l1, l2, l3, l4, l5] S (rz_mk h ι, w) = rg Z d rx_m52 36 [some (.ref a), l1, l2, l3, l4, l5] (.ref a :: S) (rz_mk h ι, w) := rz_s1 fun _ => rfl
theorem g52_36 : rg Z d rx_m52 36 [l0, some (.ref a), l2, l3, l4, l5] S (rz_mk h ι, w) = rg Z d rx_m52 37 [l0, some (.ref a), l2, l3, l4, l5] (.ref a :: S) (rz_mk h ι, w) := rz_s1 fun _ => rfl
theorem g52_37 : rg Z d rx_m52 37 [l0, l1, l2, l3, l4, some (.int x)] S (rz_mk h ι, w) = rg Z d rx_m52 39 [l0, l1, l2, l3, l4, some (.int x)] (.int x :: S) (rz_mk h ι, w) := rz_s1 fun _ => rfl
theorem g52_39 : rg Z d rx_m52 39 [l0, l1, some (.int x), l3, l4, l5] S (rz_mk h ι, w) = rg Z d rx_m52 40 [l0, l1, some (.int x), l3, l4, l5] (.int x :: S) (rz_mk h ι, w) := rz_s1 fun _ => rfl
theorem g52_40 (c : rz_oc h a 5) : rg Z d rx_m52 40 L (v3 :: v2 :: v1 :: .ref a :: []) (rz_mk h ι, w) = rz_k true (rz_f Z d 48 [.ref a, v1, v2, v3] (rz_mk h ι, w)) (fun v σ' => rg Z d rx_m52 43 L (v.toList ++ []) σ') := rz_cv (pc := 40) (n := 3) (mi := 48) (S := v3 :: v2 :: v1 :: .ref a :: []) (rest := []) rfl rfl (Nat.le_of_ble_eq_true rfl) (Nat.le_of_ble_eq_true rfl) c
theorem g52_43 : rg Z d rx_m52 43 [l0, l1, l2, some (.int x), l4, l5] S (rz_mk h ι, w) = rg Z d rx_m52 44 [l0, l1, l2, some (.int x), l4, l5] (.int x :: S) (rz_mk h ι, w) := rz_s1 fun _ => rfl
theorem g52_44 : rg Z d rx_m52 44 L (.int y :: .int x :: S) (rz_mk h ι, w) = if x < y then rg Z d rx_m52 56 L S (rz_mk h ι, w) else rg Z d rx_m52 47 L S (rz_mk h ι, w) := rz_if2 (pc := 44) (t := 56) (off := 12) (cc := .lt) (by decide) rfl
theorem g52_47 : rg Z d rx_m52 47 [l0, l1, l2, l3, some (.int x), l5] S (rz_mk h ι, w) = rg Z d rx_m52 49 [l0, l1, l2, l3, some (.int x), l5] (.int x :: S) (rz_mk h ι, w) := rz_s1 fun _ => rfl
theorem g52_49 : rg Z d rx_m52 49 L S (rz_mk h ι, w) = rg Z d rx_m52 50 L (.int 1 :: S) (rz_mk h ι, w) := rz_s1 fun _ => rfl
theorem g52_50 : rg Z d rx_m52 50 [l0, l1, l2, l3, l4, some (.int x)] S (rz_mk h ι, w) = rg Z d rx_m52 52 [l0, l1, l2, l3, l4, some (.int x)] (.int x :: S) (rz_mk h ι, w) := rz_s1 fun _ => rfl
theorem g52_52 : rg Z d rx_m52 52 L (.int y :: .int x :: S) (rz_mk h ι, w) = rg Z d rx_m52 53 L (.int (x <<< (y &&& 31)) :: S) (rz_mk h ι, w) := rz_s1 fun _ => rfl
theorem g52_53 : rg Z d rx_m52 53 L (.int y :: .int x :: S) (rz_mk h ι, w) = rg Z d rx_m52 54 L (.int (x ||| y) :: S) (rz_mk h ι, w) := rz_s1 fun _ => rfl
theorem g52_54 : rg Z d rx_m52 54 [l0, l1, l2, some (.int z), l4, l5] (.int x :: S) (rz_mk h ι, w) = rg Z d rx_m52 56 [l0, l1, l2, some (.int z), some (.int x), l5] S (rz_mk h ι, w) := rz_s1 fun _ => rfl
theorem g52_56 : rg Z d rx_m52 56 [l0, l1, l2, l3, some (.int z), some (.int x)] S (rz_mk h ι, w) = rg Z d rx_m52 59 [l0, l1, l2, l3, some (.int z), some (.int (x + 1))] S (rz_mk h ι, w) := rz_s1 fun _ => rfl
theorem g52_59 : rg Z d rx_m52 59 L S (rz_mk h ι, w) = rg Z d rx_m52 6 L S (rz_mk h ι, w) := rz_s1 fun _ => rfl
theorem g52_62 : rg Z d rx_m52 62 [l0, l1, l2, l3, some (.int x), l5] S (rz_mk h ι, w) = rg Z d rx_m52 64 [l0, l1, l2, l3, some (.int x), l5] (.int x :: S) (rz_mk h ι, w) := rz_s1 fun _ => rfl
theorem g52_64 : rg Z d rx_m52 64 L [.int x] (rz_mk h ι, w) = some (.inl (some (.int x)), (rz_mk h ι, w)) := rz_reti rfl rfl rfl
theorem e52 : rz_f Z (d + 1) 52 [.ref t0, .ref t1, .int s2, .int s3] σ = rg Z d rx_m52 0 [some (.ref t0), some (.ref t1), some (.int s2), some (.int s3), none, none] [] σ := rz_f_eq rfl (Nat.le_of_ble_eq_true rfl)
theorem g53_0 : rg Z d rx_m53 0 [some (.ref a), l1] S (rz_mk h ι, w) = rg Z d rx_m53 1 [some (.ref a), l1] (.ref a :: S) (rz_mk h ι, w) := rz_s1 fun _ => rfl
theorem g53_1 : rg Z d rx_m53 1 L (.ref a :: []) (rz_mk h ι, w) = rg Z d rx_m53 4 L [] (rz_mk h ι, w) := rz_oi rfl (Nat.le_of_ble_eq_true rfl)
theorem g53_4 : rg Z d rx_m53 4 [some (.ref a), l1] S (rz_mk h ι, w) = rg Z d rx_m53 5 [some (.ref a), l1] (.ref a :: S) (rz_mk h ι, w) := rz_s1 fun _ => rfl
theorem g53_5 : rg Z d rx_m53 5 L S (rz_mk h ι, w) = rg Z d rx_m53 8 L (.ref w.1 :: S) (rz_mk (rx_up h w.1 (.inr (5, rx_df 5))) (rz_z ι w.1), w.1 + 1, w.2 + 4) := rz_nw rfl rfl
theorem g53_8 : rg Z d rx_m53 8 L (.ref a :: S) (rz_mk h ι, w) = rg Z d rx_m53 9 L (.ref a :: .ref a :: S) (rz_mk h ι, w) := rz_s1 fun _ => rfl
theorem g53_9 : rg Z d rx_m53 9 L (.ref a :: [.ref t0, .ref t1]) (rz_mk h ι, w) = rz_k false (rz_f Z d 40 [.ref a] (rz_mk h ι, w)) (fun v σ' => rg Z d rx_m53 12 L (v.toList ++ [.ref t0, .ref t1]) σ') := rz_ci (pc := 9) (n := 0) (mi := 40) (S := .ref a :: [.ref t0, .ref t1]) (rest := [.ref t0, .ref t1]) (by decide) rfl rfl (Nat.le_of_ble_eq_true rfl) (Nat.le_of_ble_eq_true rfl)
theorem g53_12 (c : rz_fR h a 6 1) (hv : rz_isr v = true) (hz : Z.2.1 ≤ a) : rg Z d rx_m53 12 L (v :: .ref a :: S) (rz_mk h ι, w) = rg Z d rx_m53 15 L S (rz_mk (rz_hs h a 1 v) ι, w) := rz_pR rfl c hv hz
theorem g53_15 : rg Z d rx_m53 15 [some (.ref a), l1] S (rz_mk h ι, w) = rg Z d rx_m53 16 [some (.ref a), l1] (.ref a :: S) (rz_mk h ι, w) := rz_s1 fun _ => rfl
theorem g53_16 : rg Z d rx_m53 16 [l0, some (.ref a)] S (rz_mk h ι, w) = rg Z d rx_m53 17 [l0, some (.ref a)] (.ref a :: S) (rz_mk h ι, w) := rz_s1 fun _ => rfl
theorem g53_17 (c : rz_fR h a 6 0) (hv : rz_isr v = true) (hz : Z.2.1 ≤ a) : rg Z d rx_m53 17 L (v :: .ref a :: S) (rz_mk h ι, w) = rg Z d rx_m53 20 L S (rz_mk (rz_hs h a 0 v) ι, w) := rz_pR rfl c hv hz
theorem g53_20 : rg Z d rx_m53 20 L [] (rz_mk h ι, w) = some (.inl none, (rz_mk h ι, w)) := rz_r1 fun _ => rfl
theorem e53 : rz_f Z (d + 1) 53 [.ref t0, .ref t1] σ = rg Z d rx_m53 0 [some (.ref t0), some (.ref t1)] [] σ := rz_f_eq rfl (Nat.le_of_ble_eq_true rfl)
theorem g54_0 : rg Z d rx_m54 0 [some (.ref a)] S (rz_mk h ι, w) = rg Z d rx_m54 1 [some (.ref a)] (.ref a :: S) (rz_mk h ι, w) := rz_s1 fun _ => rfl
theorem g54_1 (c : rz_fR h a 6 1) : rg Z d rx_m54 1 L (.ref a :: S) (rz_mk h ι, w) = rg Z d rx_m54 4 L (rz_rv h a 1 :: S) (rz_mk h ι, w) := rz_gR rfl (by decide) c
theorem g54_4 (c : rz_oc h a 5) : rg Z d rx_m54 4 L (.ref a :: []) (rz_mk h ι, w) = rz_k true (rz_f Z d 42 [.ref a] (rz_mk h ι, w)) (fun v σ' => rg Z d rx_m54 7 L (v.toList ++ []) σ') := rz_cv (pc := 4) (n := 0) (mi := 42) (S := .ref a :: []) (rest := []) rfl rfl (Nat.le_of_ble_eq_true rfl) (Nat.le_of_ble_eq_true rfl) c
theorem g54_7 : rg Z d rx_m54 7 [some (.ref a)] S (rz_mk h ι, w) = rg Z d rx_m54 8 [some (.ref a)] (.ref a :: S) (rz_mk h ι, w) := rz_s1 fun _ => rfl
theorem g54_8 : rg Z d rx_m54 8 L S (rz_mk h ι, w) = rg Z d rx_m54 9 L (.int 0 :: S) (rz_mk h ι, w) := rz_s1 fun _ => rfl
theorem g54_9 (c : rz_oc h a 6) : rg Z d rx_m54 9 L (v1 :: .ref a :: []) (rz_mk h ι, w) = rz_k true (rz_f Z d 56 [.ref a, v1] (rz_mk h ι, w)) (fun v σ' => rg Z d rx_m54 12 L (v.toList ++ []) σ') := rz_cv (pc := 9) (n := 1) (mi := 56) (S := v1 :: .ref a :: []) (rest := []) rfl rfl (Nat.le_of_ble_eq_true rfl) (Nat.le_of_ble_eq_true rfl) c
theorem g54_12 : rg Z d rx_m54 12 L (.int x :: S) (rz_mk h ι, w) = if x = 0 then rg Z d rx_m54 29 L S (rz_mk h ι, w) else rg Z d rx_m54 15 L S (rz_mk h ι, w) := rz_if1 (pc := 12) (t := 29) (off := 17) (cc := .eq) (by decide) rfl
theorem g54_15 : rg Z d rx_m54 15 [some (.ref a)] S (rz_mk h ι, w) = rg Z d rx_m54 16 [some (.ref a)] (.ref a :: S) (rz_mk h ι, w) := rz_s1 fun _ => rfl
theorem g54_16 (c : rz_fR h a 6 0) : rg Z d rx_m54 16 L (.ref a :: S) (rz_mk h ι, w) = rg Z d rx_m54 19 L (rz_rv h a 0 :: S) (rz_mk h ι, w) := rz_gR rfl (by decide) c
theorem g54_19 (c : rz_oc h a 9) : rg Z d rx_m54 19 L (.ref a :: []) (rz_mk h ι, w) = rz_k true (rz_f Z d 97 [.ref a] (rz_mk h ι, w)) (fun v σ' => rg Z d rx_m54 22 L (v.toList ++ []) σ') := rz_cv (pc := 19) (n := 0) (mi := 97) (S := .ref a :: []) (rest := []) rfl rfl (Nat.le_of_ble_eq_true rfl) (Nat.le_of_ble_eq_true rfl) c
theorem g54_22 : rg Z d rx_m54 22 L (.int x :: S) (rz_mk h ι, w) = if x = 0 then rg Z d rx_m54 29 L S (rz_mk h ι, w) else rg Z d rx_m54 25 L S (rz_mk h ι, w) := rz_if1 (pc := 22) (t := 29) (off := 7) (cc := .eq) (by decide) rfl
theorem g54_25 : rg Z d rx_m54 25 L S (rz_mk h ι, w) = rg Z d rx_m54 26 L (.int 1 :: S) (rz_mk h ι, w) := rz_s1 fun _ => rfl
theorem g54_26 : rg Z d rx_m54 26 L S (rz_mk h ι, w) = rg Z d rx_m54 30 L S (rz_mk h ι, w) := rz_s1 fun _ => rfl
theorem g54_29 : rg Z d rx_m54 29 L S (rz_mk h ι, w) = rg Z d rx_m54 30 L (.int 0 :: S) (rz_mk h ι, w) := rz_s1 fun _ => rfl
theorem g54_30 (c : narrow .boolean (.int x) = .int x) : rg Z d rx_m54 30 L [.int x] (rz_mk h ι, w) = some (.inl (some (.int x)), (rz_mk h ι, w)) := rz_reti rfl rfl c
theorem e54 : rz_f Z (d + 1) 54 [.ref t0] σ = rg Z d rx_m54 0 [some (.ref t0)] [] σ := rz_f_eq rfl (Nat.le_of_ble_eq_true rfl)
theorem g55_0 : rg Z d rx_m55 0 [some (.ref a), l1, l2] S (rz_mk h ι, w) = rg Z d rx_m55 1 [some (.ref a), l1, l2] (.ref a :: S) (rz_mk h ι, w) := rz_s1 fun _ => rfl
theorem g55_1 (c : rz_fR h a 6 1) : rg Z d rx_m55 1 L (.ref a :: S) (rz_mk h ι, w) = rg Z d rx_m55 4 L (rz_rv h a 1 :: S) (rz_mk h ι, w) := rz_gR rfl (by decide) c
theorem g55_4 : rg Z d rx_m55 4 [l0, some (.ref b), l2] (.ref a :: S) (rz_mk h ι, w) = rg Z d rx_m55 5 [l0, some (.ref b), some (.ref a)] S (rz_mk h ι, w) := rz_s1 fun _ => rfl
theorem g55_5 : rg Z d rx_m55 5 [some (.ref a), l1, l2] S (rz_mk h ι, w) = rg Z d rx_m55 6 [some (.ref a), l1, l2] (.ref a :: S) (rz_mk h ι, w) := rz_s1 fun _ => rfl
theorem g55_6 : rg Z d rx_m55 6 [l0, some (.ref a), l2] S (rz_mk h ι, w) = rg Z d rx_m55 7 [l0, some (.ref a), l2] (.ref a :: S) (rz_mk h ι, w) := rz_s1 fun _ => rfl
theorem g55_7 (c : rz_fR h a 6 1) (hv : rz_isr v = true) (hz : Z.2.1 ≤ a) : rg Z d rx_m55 7 L (v :: .ref a :: S) (rz_mk h ι, w) = rg Z d rx_m55 10 L S (rz_mk (rz_hs h a 1 v) ι, w) := rz_pR rfl c hv hz
theorem g55_10 : rg Z d rx_m55 10 [l0, l1, some (.ref a)] S (rz_mk h ι, w) = rg Z d rx_m55 11 [l0, l1, some (.ref a)] (.ref a :: S) (rz_mk h ι, w) := rz_s1 fun _ => rfl
theorem g55_11 : rg Z d rx_m55 11 L [.ref a] (rz_mk h ι, w) = some (.inl (some (.ref a)), (rz_mk h ι, w)) := rz_r1 fun _ => rfl
theorem e55 : rz_f Z (d + 1) 55 [.ref t0, .ref t1] σ = rg Z d rx_m55 0 [some (.ref t0), some (.ref t1), none] [] σ := rz_f_eq rfl (Nat.le_of_ble_eq_true rfl)
theorem g56_0 : rg Z d rx_m56 0 [some (.ref a), l1, l2, l3] S (rz_mk h ι, w) = rg Z d rx_m56 1 [some (.ref a), l1, l2, l3] (.ref a :: S) (rz_mk h ι, w) := rz_s1 fun _ => rfl
theorem g56_1 : rg Z d rx_m56 1 [l0, some (.int x), l2, l3] S (rz_mk h ι, w) = rg Z d rx_m56 2 [l0, some (.int x), l2, l3] (.int x :: S) (rz_mk h ι, w) := rz_s1 fun _ => rfl
theorem g56_2 (c : rz_oc h a 6) : rg Z d rx_m56 2 L (v1 :: .ref a :: []) (rz_mk h ι, w) = rz_k true (rz_f Z d 57 [.ref a, v1] (rz_mk h ι, w)) (fun v σ' => rg Z d rx_m56 5 L (v.toList ++ []) σ') := rz_cv (pc := 2) (n := 1) (mi := 57) (S := v1 :: .ref a :: []) (rest := []) rfl rfl (Nat.le_of_ble_eq_true rfl) (Nat.le_of_ble_eq_true rfl) c
theorem g56_5 : rg Z d rx_m56 5 [l0, some (.int z), l2, l3] (.int x :: S) (rz_mk h ι, w) = rg Z d rx_m56 6 [l0, some (.int z), some (.int x), l3] S (rz_mk h ι, w) := rz_s1 fun _ => rfl
theorem g56_6 : rg Z d rx_m56 6 L S (rz_mk h ι, w) = rg Z d rx_m56 7 L (.int 0 :: S) (rz_mk h ι, w) := rz_s1 fun _ => rfl
theorem g56_7 : rg Z d rx_m56 7 [l0, l1, some (.int z), l3] (.int x :: S) (rz_mk h ι, w) = rg Z d rx_m56 8 [l0, l1, some (.int z), some (.int x)] S (rz_mk h ι, w) := rz_s1 fun _ => rfl
theorem g56_8 : rg Z d rx_m56 8 [l0, l1, some (.int x), l3] S (rz_mk h ι, w) = rg Z d rx_m56 9 [l0, l1, some (.int x), l3] (.int x :: S) (rz_mk h ι, w) := rz_s1 fun _ => rfl
theorem g56_9 : rg Z d rx_m56 9 L (.int x :: S) (rz_mk h ι, w) = if x = 0 then rg Z d rx_m56 96 L S (rz_mk h ι, w) else rg Z d rx_m56 12 L S (rz_mk h ι, w) := rz_if1 (pc := 9) (t := 96) (off := 87) (cc := .eq) (by decide) rfl
theorem g56_12 : rg Z d rx_m56 12 [l0, l1, l2, some (.int x)] S (rz_mk h ι, w) = rg Z d rx_m56 13 [l0, l1, l2, some (.int x)] (.int x :: S) (rz_mk h ι, w) := rz_s1 fun _ => rfl
theorem g56_13 : rg Z d rx_m56 13 L S (rz_mk h ι, w) = rg Z d rx_m56 16 L (.int 150 :: S) (rz_mk h ι, w) := rz_s1 fun _ => rfl
theorem g56_16 : rg Z d rx_m56 16 L (.int y :: .int x :: S) (rz_mk h ι, w) = if x < y then rg Z d rx_m56 19 L S (rz_mk h ι, w) else rg Z d rx_m56 96 L S (rz_mk h ι, w) := rz_if2 (pc := 16) (t := 96) (off := 80) (cc := .ge) (by decide) rfl
theorem g56_19 : rg Z d rx_m56 19 [some (.ref a), l1, l2, l3] S (rz_mk h ι, w) = rg Z d rx_m56 20 [some (.ref a), l1, l2, l3] (.ref a :: S) (rz_mk h ι, w) := rz_s1 fun _ => rfl
theorem g56_20 (c : rz_fR h a 6 0) : rg Z d rx_m56 20 L (.ref a :: S) (rz_mk h ι, w) = rg Z d rx_m56 23 L (rz_rv h a 0 :: S) (rz_mk h ι, w) := rz_gR rfl (by decide) c
theorem g56_23 : rg Z d rx_m56 23 L S (rz_mk h ι, w) = rg Z d rx_m56 25 L (.int 43 :: S) (rz_mk h ι, w) := rz_s1 fun _ => rfl
theorem g56_25 (c : rz_oc h a 9) : rg Z d rx_m56 25 L (v1 :: .ref a :: []) (rz_mk h ι, w) = rz_k true (rz_f Z d 95 [.ref a, v1] (rz_mk h ι, w)) (fun v σ' => rg Z d rx_m56 28 L (v.toList ++ []) σ') := rz_cv (pc := 25) (n := 1) (mi := 95) (S := v1 :: .ref a :: []) (rest := []) rfl rfl (Nat.le_of_ble_eq_true rfl) (Nat.le_of_ble_eq_true rfl) c
theorem g56_28 : rg Z d rx_m56 28 L (.int x :: S) (rz_mk h ι, w) = if x = 0 then rg Z d rx_m56 56 L S (rz_mk h ι, w) else rg Z d rx_m56 31 L S (rz_mk h ι, w) := rz_if1 (pc := 28) (t := 56) (off := 28) (cc := .eq) (by decide) rfl
theorem g56_31 : rg Z d rx_m56 31 [some (.ref a), l1, l2, l3] S (rz_mk h ι, w) = rg Z d rx_m56 32 [some (.ref a), l1, l2, l3] (.ref a :: S) (rz_mk h ι, w) := rz_s1 fun _ => rfl
theorem g56_32 : rg Z d rx_m56 32 [l0, some (.int x), l2, l3] S (rz_mk h ι, w) = rg Z d rx_m56 33 [l0, some (.int x), l2, l3] (.int x :: S) (rz_mk h ι, w) := rz_s1 fun _ => rfl
theorem g56_33 (c : rz_oc h a 6) : rg Z d rx_m56 33 L (v1 :: .ref a :: []) (rz_mk h ι, w) = rz_k true (rz_f Z d 57 [.ref a, v1] (rz_mk h ι, w)) (fun v σ' => rg Z d rx_m56 36 L (v.toList ++ []) σ') := rz_cv (pc := 33) (n := 1) (mi := 57) (S := v1 :: .ref a :: []) (rest := []) rfl rfl (Nat.le_of_ble_eq_true rfl) (Nat.le_of_ble_eq_true rfl) c
theorem g56_36 : rg Z d rx_m56 36 L (.int x :: S) (rz_mk h ι, w) = if x = 0 then rg Z d rx_m56 51 L S (rz_mk h ι, w) else rg Z d rx_m56 39 L S (rz_mk h ι, w) := rz_if1 (pc := 36) (t := 51) (off := 15) (cc := .eq) (by decide) rfl
theorem g56_39 : rg Z d rx_m56 39 [some (.ref a), l1, l2, l3] S (rz_mk h ι, w) = rg Z d rx_m56 40 [some (.ref a), l1, l2, l3] (.ref a :: S) (rz_mk h ι, w) := rz_s1 fun _ => rfl
theorem g56_40 : rg Z d rx_m56 40 L S (rz_mk h ι, w) = rg Z d rx_m56 41 L (.int 0 :: S) (rz_mk h ι, w) := rz_s1 fun _ => rfl
theorem g56_41 (c : rz_oc h a 6) : rg Z d rx_m56 41 L (v1 :: .ref a :: []) (rz_mk h ι, w) = rz_k true (rz_f Z d 62 [.ref a, v1] (rz_mk h ι, w)) (fun v σ' => rg Z d rx_m56 44 L (v.toList ++ []) σ') := rz_cv (pc := 41) (n := 1) (mi := 62) (S := v1 :: .ref a :: []) (rest := []) rfl rfl (Nat.le_of_ble_eq_true rfl) (Nat.le_of_ble_eq_true rfl) c
theorem g56_44 : rg Z d rx_m56 44 L (.int x :: S) (rz_mk h ι, w) = if x = 0 then rg Z d rx_m56 51 L S (rz_mk h ι, w) else rg Z d rx_m56 47 L S (rz_mk h ι, w) := rz_if1 (pc := 44) (t := 51) (off := 7) (cc := .eq) (by decide) rfl
theorem g56_47 : rg Z d rx_m56 47 L S (rz_mk h ι, w) = rg Z d rx_m56 48 L (.int 1 :: S) (rz_mk h ι, w) := rz_s1 fun _ => rfl
theorem g56_48 : rg Z d rx_m56 48 L S (rz_mk h ι, w) = rg Z d rx_m56 52 L S (rz_mk h ι, w) := rz_s1 fun _ => rfl
theorem g56_51 : rg Z d rx_m56 51 L S (rz_mk h ι, w) = rg Z d rx_m56 52 L (.int 0 :: S) (rz_mk h ι, w) := rz_s1 fun _ => rfl
theorem g56_52 : rg Z d rx_m56 52 [l0, some (.int z), l2, l3] (.int x :: S) (rz_mk h ι, w) = rg Z d rx_m56 53 [l0, some (.int z), some (.int x), l3] S (rz_mk h ι, w) := rz_s1 fun _ => rfl
theorem g56_53 : rg Z d rx_m56 53 L S (rz_mk h ι, w) = rg Z d rx_m56 90 L S (rz_mk h ι, w) := rz_s1 fun _ => rfl
theorem g56_56 : rg Z d rx_m56 56 [some (.ref a), l1, l2, l3] S (rz_mk h ι, w) = rg Z d rx_m56 57 [some (.ref a), l1, l2, l3] (.ref a :: S) (rz_mk h ι, w) := rz_s1 fun _ => rfl
theorem g56_57 (c : rz_fR h a 6 0) : rg Z d rx_m56 57 L (.ref a :: S) (rz_mk h ι, w) = rg Z d rx_m56 60 L (rz_rv h a 0 :: S) (rz_mk h ι, w) := rz_gR rfl (by decide) c
theorem g56_60 : rg Z d rx_m56 60 L S (rz_mk h ι, w) = rg Z d rx_m56 62 L (.int 45 :: S) (rz_mk h ι, w) := rz_s1 fun _ => rfl
theorem g56_62 (c : rz_oc h a 9) : rg Z d rx_m56 62 L (v1 :: .ref a :: []) (rz_mk h ι, w) = rz_k true (rz_f Z d 95 [.ref a, v1] (rz_mk h ι, w)) (fun v σ' => rg Z d rx_m56 65 L (v.toList ++ []) σ') := rz_cv (pc := 62) (n := 1) (mi := 95) (S := v1 :: .ref a :: []) (rest := []) rfl rfl (Nat.le_of_ble_eq_true rfl) (Nat.le_of_ble_eq_true rfl) c
theorem g56_65 : rg Z d rx_m56 65 L (.int x :: S) (rz_mk h ι, w) = if x = 0 then rg Z d rx_m56 96 L S (rz_mk h ι, w) else rg Z d rx_m56 68 L S (rz_mk h ι, w) := rz_if1 (pc := 65) (t := 96) (off := 31) (cc := .eq) (by decide) rfl
theorem g56_68 : rg Z d rx_m56 68 [some (.ref a), l1, l2, l3] S (rz_mk h ι, w) = rg Z d rx_m56 69 [some (.ref a), l1, l2, l3] (.ref a :: S) (rz_mk h ι, w) := rz_s1 fun _ => rfl
theorem g56_69 : rg Z d rx_m56 69 [l0, some (.int x), l2, l3] S (rz_mk h ι, w) = rg Z d rx_m56 70 [l0, some (.int x), l2, l3] (.int x :: S) (rz_mk h ι, w) := rz_s1 fun _ => rfl
theorem g56_70 (c : rz_oc h a 6) : rg Z d rx_m56 70 L (v1 :: .ref a :: []) (rz_mk h ι, w) = rz_k true (rz_f Z d 57 [.ref a, v1] (rz_mk h ι, w)) (fun v σ' => rg Z d rx_m56 73 L (v.toList ++ []) σ') := rz_cv (pc := 70) (n := 1) (mi := 57) (S := v1 :: .ref a :: []) (rest := []) rfl rfl (Nat.le_of_ble_eq_true rfl) (Nat.le_of_ble_eq_true rfl) c
theorem g56_73 : rg Z d rx_m56 73 L (.int x :: S) (rz_mk h ι, w) = if x = 0 then rg Z d rx_m56 88 L S (rz_mk h ι, w) else rg Z d rx_m56 76 L S (rz_mk h ι, w) := rz_if1 (pc := 73) (t := 88) (off := 15) (cc := .eq) (by decide) rfl
theorem g56_76 : rg Z d rx_m56 76 [some (.ref a), l1, l2, l3] S (rz_mk h ι, w) = rg Z d rx_m56 77 [some (.ref a), l1, l2, l3] (.ref a :: S) (rz_mk h ι, w) := rz_s1 fun _ => rfl
theorem g56_77 : rg Z d rx_m56 77 L S (rz_mk h ι, w) = rg Z d rx_m56 78 L (.int 1 :: S) (rz_mk h ι, w) := rz_s1 fun _ => rfl
theorem g56_78 (c : rz_oc h a 6) : rg Z d rx_m56 78 L (v1 :: .ref a :: []) (rz_mk h ι, w) = rz_k true (rz_f Z d 62 [.ref a, v1] (rz_mk h ι, w)) (fun v σ' => rg Z d rx_m56 81 L (v.toList ++ []) σ') := rz_cv (pc := 78) (n := 1) (mi := 62) (S := v1 :: .ref a :: []) (rest := []) rfl rfl (Nat.le_of_ble_eq_true rfl) (Nat.le_of_ble_eq_true rfl) c
theorem g56_81 : rg Z d rx_m56 81 L (.int x :: S) (rz_mk h ι, w) = if x = 0 then rg Z d rx_m56 88 L S (rz_mk h ι, w) else rg Z d rx_m56 84 L S (rz_mk h ι, w) := rz_if1 (pc := 81) (t := 88) (off := 7) (cc := .eq) (by decide) rfl
theorem g56_84 : rg Z d rx_m56 84 L S (rz_mk h ι, w) = rg Z d rx_m56 85 L (.int 1 :: S) (rz_mk h ι, w) := rz_s1 fun _ => rfl
theorem g56_85 : rg Z d rx_m56 85 L S (rz_mk h ι, w) = rg Z d rx_m56 89 L S (rz_mk h ι, w) := rz_s1 fun _ => rfl
theorem g56_88 : rg Z d rx_m56 88 L S (rz_mk h ι, w) = rg Z d rx_m56 89 L (.int 0 :: S) (rz_mk h ι, w) := rz_s1 fun _ => rfl
theorem g56_89 : rg Z d rx_m56 89 [l0, some (.int z), l2, l3] (.int x :: S) (rz_mk h ι, w) = rg Z d rx_m56 90 [l0, some (.int z), some (.int x), l3] S (rz_mk h ι, w) := rz_s1 fun _ => rfl
theorem g56_90 : rg Z d rx_m56 90 [l0, l1, some (.int z), some (.int x)] S (rz_mk h ι, w) = rg Z d rx_m56 93 [l0, l1, some (.int z), some (.int (x + 1))] S (rz_mk h ι, w) := rz_s1 fun _ => rfl
theorem g56_93 : rg Z d rx_m56 93 L S (rz_mk h ι, w) = rg Z d rx_m56 8 L S (rz_mk h ι, w) := rz_s1 fun _ => rfl
theorem g56_96 : rg Z d rx_m56 96 [l0, l1, some (.int x), l3] S (rz_mk h ι, w) = rg Z d rx_m56 97 [l0, l1, some (.int x), l3] (.int x :: S) (rz_mk h ι, w) := rz_s1 fun _ => rfl
theorem g56_97 (c : narrow .boolean (.int x) = .int x) : rg Z d rx_m56 97 L [.int x] (rz_mk h ι, w) = some (.inl (some (.int x)), (rz_mk h ι, w)) := rz_reti rfl rfl c
theorem e56 : rz_f Z (d + 1) 56 [.ref t0, .int s1] σ = rg Z d rx_m56 0 [some (.ref t0), some (.int s1), none, none] [] σ := rz_f_eq rfl (Nat.le_of_ble_eq_true rfl)
theorem g57_0 : rg Z d rx_m57 0 [some (.ref a), l1, l2, l3] S (rz_mk h ι, w) = rg Z d rx_m57 1 [some (.ref a), l1, l2, l3] (.ref a :: S) (rz_mk h ι, w) := rz_s1 fun _ => rfl
theorem g57_1 : rg Z d rx_m57 1 [l0, some (.int x), l2, l3] S (rz_mk h ι, w) = rg Z d rx_m57 2 [l0, some (.int x), l2, l3] (.int x :: S) (rz_mk h ι, w) := rz_s1 fun _ => rfl
theorem g57_2 (c : rz_oc h a 6) : rg Z d rx_m57 2 L (v1 :: .ref a :: []) (rz_mk h ι, w) = rz_k true (rz_f Z d 58 [.ref a, v1] (rz_mk h ι, w)) (fun v σ' => rg Z d rx_m57 5 L (v.toList ++ []) σ') := rz_cv (pc := 2) (n := 1) (mi := 58) (S := v1 :: .ref a :: []) (rest := []) rfl rfl (Nat.le_of_ble_eq_true rfl) (Nat.le_of_ble_eq_true rfl) c
theorem g57_5 : rg Z d rx_m57 5 [l0, some (.int z), l2, l3] (.int x :: S) (rz_mk h ι, w) = rg Z d rx_m57 6 [l0, some (.int z), some (.int x), l3] S (rz_mk h ι, w) := rz_s1 fun _ => rfl
theorem g57_6 : rg Z d rx_m57 6 L S (rz_mk h ι, w) = rg Z d rx_m57 7 L (.int 0 :: S) (rz_mk h ι, w) := rz_s1 fun _ => rfl
theorem g57_7 : rg Z d rx_m57 7 [l0, l1, some (.int z), l3] (.int x :: S) (rz_mk h ι, w) = rg Z d rx_m57 8 [l0, l1, some (.int z), some (.int x)] S (rz_mk h ι, w) := rz_s1 fun _ => rfl
theorem g57_8 : rg Z d rx_m57 8 [l0, l1, some (.int x), l3] S (rz_mk h ι, w) = rg Z d rx_m57 9 [l0, l1, some (.int x), l3] (.int x :: S) (rz_mk h ι, w) := rz_s1 fun _ => rfl
theorem g57_9 : rg Z d rx_m57 9 L (.int x :: S) (rz_mk h ι, w) = if x = 0 then rg Z d rx_m57 133 L S (rz_mk h ι, w) else rg Z d rx_m57 12 L S (rz_mk h ι, w) := rz_if1 (pc := 9) (t := 133) (off := 124) (cc := .eq) (by decide) rfl
theorem g57_12 : rg Z d rx_m57 12 [l0, l1, l2, some (.int x)] S (rz_mk h ι, w) = rg Z d rx_m57 13 [l0, l1, l2, some (.int x)] (.int x :: S) (rz_mk h ι, w) := rz_s1 fun _ => rfl
theorem g57_13 : rg Z d rx_m57 13 L S (rz_mk h ι, w) = rg Z d rx_m57 16 L (.int 150 :: S) (rz_mk h ι, w) := rz_s1 fun _ => rfl
theorem g57_16 : rg Z d rx_m57 16 L (.int y :: .int x :: S) (rz_mk h ι, w) = if x < y then rg Z d rx_m57 19 L S (rz_mk h ι, w) else rg Z d rx_m57 133 L S (rz_mk h ι, w) := rz_if2 (pc := 16) (t := 133) (off := 117) (cc := .ge) (by decide) rfl
theorem g57_19 : rg Z d rx_m57 19 [some (.ref a), l1, l2, l3] S (rz_mk h ι, w) = rg Z d rx_m57 20 [some (.ref a), l1, l2, l3] (.ref a :: S) (rz_mk h ι, w) := rz_s1 fun _ => rfl
theorem g57_20 (c : rz_fR h a 6 0) : rg Z d rx_m57 20 L (.ref a :: S) (rz_mk h ι, w) = rg Z d rx_m57 23 L (rz_rv h a 0 :: S) (rz_mk h ι, w) := rz_gR rfl (by decide) c
theorem g57_23 : rg Z d rx_m57 23 L S (rz_mk h ι, w) = rg Z d rx_m57 25 L (.int 42 :: S) (rz_mk h ι, w) := rz_s1 fun _ => rfl
theorem g57_25 (c : rz_oc h a 9) : rg Z d rx_m57 25 L (v1 :: .ref a :: []) (rz_mk h ι, w) = rz_k true (rz_f Z d 95 [.ref a, v1] (rz_mk h ι, w)) (fun v σ' => rg Z d rx_m57 28 L (v.toList ++ []) σ') := rz_cv (pc := 25) (n := 1) (mi := 95) (S := v1 :: .ref a :: []) (rest := []) rfl rfl (Nat.le_of_ble_eq_true rfl) (Nat.le_of_ble_eq_true rfl) c
theorem g57_28 : rg Z d rx_m57 28 L (.int x :: S) (rz_mk h ι, w) = if x = 0 then rg Z d rx_m57 56 L S (rz_mk h ι, w) else rg Z d rx_m57 31 L S (rz_mk h ι, w) := rz_if1 (pc := 28) (t := 56) (off := 28) (cc := .eq) (by decide) rfl
theorem g57_31 : rg Z d rx_m57 31 [some (.ref a), l1, l2, l3] S (rz_mk h ι, w) = rg Z d rx_m57 32 [some (.ref a), l1, l2, l3] (.ref a :: S) (rz_mk h ι, w) := rz_s1 fun _ => rfl
theorem g57_32 : rg Z d rx_m57 32 [l0, some (.int x), l2, l3] S (rz_mk h ι, w) = rg Z d rx_m57 33 [l0, some (.int x), l2, l3] (.int x :: S) (rz_mk h ι, w) := rz_s1 fun _ => rfl
theorem g57_33 (c : rz_oc h a 6) : rg Z d rx_m57 33 L (v1 :: .ref a :: []) (rz_mk h ι, w) = rz_k true (rz_f Z d 58 [.ref a, v1] (rz_mk h ι, w)) (fun v σ' => rg Z d rx_m57 36 L (v.toList ++ []) σ') := rz_cv (pc := 33) (n := 1) (mi := 58) (S := v1 :: .ref a :: []) (rest := []) rfl rfl (Nat.le_of_ble_eq_true rfl) (Nat.le_of_ble_eq_true rfl) c
theorem g57_36 : rg Z d rx_m57 36 L (.int x :: S) (rz_mk h ι, w) = if x = 0 then rg Z d rx_m57 51 L S (rz_mk h ι, w) else rg Z d rx_m57 39 L S (rz_mk h ι, w) := rz_if1 (pc := 36) (t := 51) (off := 15) (cc := .eq) (by decide) rfl
theorem g57_39 : rg Z d rx_m57 39 [some (.ref a), l1, l2, l3] S (rz_mk h ι, w) = rg Z d rx_m57 40 [some (.ref a), l1, l2, l3] (.ref a :: S) (rz_mk h ι, w) := rz_s1 fun _ => rfl
theorem g57_40 : rg Z d rx_m57 40 L S (rz_mk h ι, w) = rg Z d rx_m57 41 L (.int 2 :: S) (rz_mk h ι, w) := rz_s1 fun _ => rfl
theorem g57_41 (c : rz_oc h a 6) : rg Z d rx_m57 41 L (v1 :: .ref a :: []) (rz_mk h ι, w) = rz_k true (rz_f Z d 62 [.ref a, v1] (rz_mk h ι, w)) (fun v σ' => rg Z d rx_m57 44 L (v.toList ++ []) σ') := rz_cv (pc := 41) (n := 1) (mi := 62) (S := v1 :: .ref a :: []) (rest := []) rfl rfl (Nat.le_of_ble_eq_true rfl) (Nat.le_of_ble_eq_true rfl) c
theorem g57_44 : rg Z d rx_m57 44 L (.int x :: S) (rz_mk h ι, w) = if x = 0 then rg Z d rx_m57 51 L S (rz_mk h ι, w) else rg Z d rx_m57 47 L S (rz_mk h ι, w) := rz_if1 (pc := 44) (t := 51) (off := 7) (cc := .eq) (by decide) rfl
theorem g57_47 : rg Z d rx_m57 47 L S (rz_mk h ι, w) = rg Z d rx_m57 48 L (.int 1 :: S) (rz_mk h ι, w) := rz_s1 fun _ => rfl
theorem g57_48 : rg Z d rx_m57 48 L S (rz_mk h ι, w) = rg Z d rx_m57 52 L S (rz_mk h ι, w) := rz_s1 fun _ => rfl
theorem g57_51 : rg Z d rx_m57 51 L S (rz_mk h ι, w) = rg Z d rx_m57 52 L (.int 0 :: S) (rz_mk h ι, w) := rz_s1 fun _ => rfl
theorem g57_52 : rg Z d rx_m57 52 [l0, some (.int z), l2, l3] (.int x :: S) (rz_mk h ι, w) = rg Z d rx_m57 53 [l0, some (.int z), some (.int x), l3] S (rz_mk h ι, w) := rz_s1 fun _ => rfl
theorem g57_53 : rg Z d rx_m57 53 L S (rz_mk h ι, w) = rg Z d rx_m57 127 L S (rz_mk h ι, w) := rz_s1 fun _ => rfl
theorem g57_56 : rg Z d rx_m57 56 [some (.ref a), l1, l2, l3] S (rz_mk h ι, w) = rg Z d rx_m57 57 [some (.ref a), l1, l2, l3] (.ref a :: S) (rz_mk h ι, w) := rz_s1 fun _ => rfl
theorem g57_57 (c : rz_fR h a 6 0) : rg Z d rx_m57 57 L (.ref a :: S) (rz_mk h ι, w) = rg Z d rx_m57 60 L (rz_rv h a 0 :: S) (rz_mk h ι, w) := rz_gR rfl (by decide) c
theorem g57_60 : rg Z d rx_m57 60 L S (rz_mk h ι, w) = rg Z d rx_m57 62 L (.int 47 :: S) (rz_mk h ι, w) := rz_s1 fun _ => rfl
theorem g57_62 (c : rz_oc h a 9) : rg Z d rx_m57 62 L (v1 :: .ref a :: []) (rz_mk h ι, w) = rz_k true (rz_f Z d 95 [.ref a, v1] (rz_mk h ι, w)) (fun v σ' => rg Z d rx_m57 65 L (v.toList ++ []) σ') := rz_cv (pc := 62) (n := 1) (mi := 95) (S := v1 :: .ref a :: []) (rest := []) rfl rfl (Nat.le_of_ble_eq_true rfl) (Nat.le_of_ble_eq_true rfl) c
theorem g57_65 : rg Z d rx_m57 65 L (.int x :: S) (rz_mk h ι, w) = if x = 0 then rg Z d rx_m57 93 L S (rz_mk h ι, w) else rg Z d rx_m57 68 L S (rz_mk h ι, w) := rz_if1 (pc := 65) (t := 93) (off := 28) (cc := .eq) (by decide) rfl
theorem g57_68 : rg Z d rx_m57 68 [some (.ref a), l1, l2, l3] S (rz_mk h ι, w) = rg Z d rx_m57 69 [some (.ref a), l1, l2, l3] (.ref a :: S) (rz_mk h ι, w) := rz_s1 fun _ => rfl
theorem g57_69 : rg Z d rx_m57 69 [l0, some (.int x), l2, l3] S (rz_mk h ι, w) = rg Z d rx_m57 70 [l0, some (.int x), l2, l3] (.int x :: S) (rz_mk h ι, w) := rz_s1 fun _ => rfl
theorem g57_70 (c : rz_oc h a 6) : rg Z d rx_m57 70 L (v1 :: .ref a :: []) (rz_mk h ι, w) = rz_k true (rz_f Z d 58 [.ref a, v1] (rz_mk h ι, w)) (fun v σ' => rg Z d rx_m57 73 L (v.toList ++ []) σ') := rz_cv (pc := 70) (n := 1) (mi := 58) (S := v1 :: .ref a :: []) (rest := []) rfl rfl (Nat.le_of_ble_eq_true rfl) (Nat.le_of_ble_eq_true rfl) c
theorem g57_73 : rg Z d rx_m57 73 L (.int x :: S) (rz_mk h ι, w) = if x = 0 then rg Z d rx_m57 88 L S (rz_mk h ι, w) else rg Z d rx_m57 76 L S (rz_mk h ι, w) := rz_if1 (pc := 73) (t := 88) (off := 15) (cc := .eq) (by decide) rfl
theorem g57_76 : rg Z d rx_m57 76 [some (.ref a), l1, l2, l3] S (rz_mk h ι, w) = rg Z d rx_m57 77 [some (.ref a), l1, l2, l3] (.ref a :: S) (rz_mk h ι, w) := rz_s1 fun _ => rfl
theorem g57_77 : rg Z d rx_m57 77 L S (rz_mk h ι, w) = rg Z d rx_m57 78 L (.int 3 :: S) (rz_mk h ι, w) := rz_s1 fun _ => rfl
theorem g57_78 (c : rz_oc h a 6) : rg Z d rx_m57 78 L (v1 :: .ref a :: []) (rz_mk h ι, w) = rz_k true (rz_f Z d 62 [.ref a, v1] (rz_mk h ι, w)) (fun v σ' => rg Z d rx_m57 81 L (v.toList ++ []) σ') := rz_cv (pc := 78) (n := 1) (mi := 62) (S := v1 :: .ref a :: []) (rest := []) rfl rfl (Nat.le_of_ble_eq_true rfl) (Nat.le_of_ble_eq_true rfl) c
theorem g57_81 : rg Z d rx_m57 81 L (.int x :: S) (rz_mk h ι, w) = if x = 0 then rg Z d rx_m57 88 L S (rz_mk h ι, w) else rg Z d rx_m57 84 L S (rz_mk h ι, w) := rz_if1 (pc := 81) (t := 88) (off := 7) (cc := .eq) (by decide) rfl
theorem g57_84 : rg Z d rx_m57 84 L S (rz_mk h ι, w) = rg Z d rx_m57 85 L (.int 1 :: S) (rz_mk h ι, w) := rz_s1 fun _ => rfl
theorem g57_85 : rg Z d rx_m57 85 L S (rz_mk h ι, w) = rg Z d rx_m57 89 L S (rz_mk h ι, w) := rz_s1 fun _ => rfl
theorem g57_88 : rg Z d rx_m57 88 L S (rz_mk h ι, w) = rg Z d rx_m57 89 L (.int 0 :: S) (rz_mk h ι, w) := rz_s1 fun _ => rfl
theorem g57_89 : rg Z d rx_m57 89 [l0, some (.int z), l2, l3] (.int x :: S) (rz_mk h ι, w) = rg Z d rx_m57 90 [l0, some (.int z), some (.int x), l3] S (rz_mk h ι, w) := rz_s1 fun _ => rfl
theorem g57_90 : rg Z d rx_m57 90 L S (rz_mk h ι, w) = rg Z d rx_m57 127 L S (rz_mk h ι, w) := rz_s1 fun _ => rfl
theorem g57_93 : rg Z d rx_m57 93 [some (.ref a), l1, l2, l3] S (rz_mk h ι, w) = rg Z d rx_m57 94 [some (.ref a), l1, l2, l3] (.ref a :: S) (rz_mk h ι, w) := rz_s1 fun _ => rfl
theorem g57_94 (c : rz_fR h a 6 0) : rg Z d rx_m57 94 L (.ref a :: S) (rz_mk h ι, w) = rg Z d rx_m57 97 L (rz_rv h a 0 :: S) (rz_mk h ι, w) := rz_gR rfl (by decide) c
theorem g57_97 : rg Z d rx_m57 97 L S (rz_mk h ι, w) = rg Z d rx_m57 99 L (.int 37 :: S) (rz_mk h ι, w) := rz_s1 fun _ => rfl
theorem g57_99 (c : rz_oc h a 9) : rg Z d rx_m57 99 L (v1 :: .ref a :: []) (rz_mk h ι, w) = rz_k true (rz_f Z d 95 [.ref a, v1] (rz_mk h ι, w)) (fun v σ' => rg Z d rx_m57 102 L (v.toList ++ []) σ') := rz_cv (pc := 99) (n := 1) (mi := 95) (S := v1 :: .ref a :: []) (rest := []) rfl rfl (Nat.le_of_ble_eq_true rfl) (Nat.le_of_ble_eq_true rfl) c
theorem g57_102 : rg Z d rx_m57 102 L (.int x :: S) (rz_mk h ι, w) = if x = 0 then rg Z d rx_m57 133 L S (rz_mk h ι, w) else rg Z d rx_m57 105 L S (rz_mk h ι, w) := rz_if1 (pc := 102) (t := 133) (off := 31) (cc := .eq) (by decide) rfl
theorem g57_105 : rg Z d rx_m57 105 [some (.ref a), l1, l2, l3] S (rz_mk h ι, w) = rg Z d rx_m57 106 [some (.ref a), l1, l2, l3] (.ref a :: S) (rz_mk h ι, w) := rz_s1 fun _ => rfl
theorem g57_106 : rg Z d rx_m57 106 [l0, some (.int x), l2, l3] S (rz_mk h ι, w) = rg Z d rx_m57 107 [l0, some (.int x), l2, l3] (.int x :: S) (rz_mk h ι, w) := rz_s1 fun _ => rfl
theorem g57_107 (c : rz_oc h a 6) : rg Z d rx_m57 107 L (v1 :: .ref a :: []) (rz_mk h ι, w) = rz_k true (rz_f Z d 58 [.ref a, v1] (rz_mk h ι, w)) (fun v σ' => rg Z d rx_m57 110 L (v.toList ++ []) σ') := rz_cv (pc := 107) (n := 1) (mi := 58) (S := v1 :: .ref a :: []) (rest := []) rfl rfl (Nat.le_of_ble_eq_true rfl) (Nat.le_of_ble_eq_true rfl) c
theorem g57_110 : rg Z d rx_m57 110 L (.int x :: S) (rz_mk h ι, w) = if x = 0 then rg Z d rx_m57 125 L S (rz_mk h ι, w) else rg Z d rx_m57 113 L S (rz_mk h ι, w) := rz_if1 (pc := 110) (t := 125) (off := 15) (cc := .eq) (by decide) rfl
theorem g57_113 : rg Z d rx_m57 113 [some (.ref a), l1, l2, l3] S (rz_mk h ι, w) = rg Z d rx_m57 114 [some (.ref a), l1, l2, l3] (.ref a :: S) (rz_mk h ι, w) := rz_s1 fun _ => rfl
theorem g57_114 : rg Z d rx_m57 114 L S (rz_mk h ι, w) = rg Z d rx_m57 115 L (.int 4 :: S) (rz_mk h ι, w) := rz_s1 fun _ => rfl
theorem g57_115 (c : rz_oc h a 6) : rg Z d rx_m57 115 L (v1 :: .ref a :: []) (rz_mk h ι, w) = rz_k true (rz_f Z d 62 [.ref a, v1] (rz_mk h ι, w)) (fun v σ' => rg Z d rx_m57 118 L (v.toList ++ []) σ') := rz_cv (pc := 115) (n := 1) (mi := 62) (S := v1 :: .ref a :: []) (rest := []) rfl rfl (Nat.le_of_ble_eq_true rfl) (Nat.le_of_ble_eq_true rfl) c
theorem g57_118 : rg Z d rx_m57 118 L (.int x :: S) (rz_mk h ι, w) = if x = 0 then rg Z d rx_m57 125 L S (rz_mk h ι, w) else rg Z d rx_m57 121 L S (rz_mk h ι, w) := rz_if1 (pc := 118) (t := 125) (off := 7) (cc := .eq) (by decide) rfl
theorem g57_121 : rg Z d rx_m57 121 L S (rz_mk h ι, w) = rg Z d rx_m57 122 L (.int 1 :: S) (rz_mk h ι, w) := rz_s1 fun _ => rfl
theorem g57_122 : rg Z d rx_m57 122 L S (rz_mk h ι, w) = rg Z d rx_m57 126 L S (rz_mk h ι, w) := rz_s1 fun _ => rfl
theorem g57_125 : rg Z d rx_m57 125 L S (rz_mk h ι, w) = rg Z d rx_m57 126 L (.int 0 :: S) (rz_mk h ι, w) := rz_s1 fun _ => rfl
theorem g57_126 : rg Z d rx_m57 126 [l0, some (.int z), l2, l3] (.int x :: S) (rz_mk h ι, w) = rg Z d rx_m57 127 [l0, some (.int z), some (.int x), l3] S (rz_mk h ι, w) := rz_s1 fun _ => rfl
theorem g57_127 : rg Z d rx_m57 127 [l0, l1, some (.int z), some (.int x)] S (rz_mk h ι, w) = rg Z d rx_m57 130 [l0, l1, some (.int z), some (.int (x + 1))] S (rz_mk h ι, w) := rz_s1 fun _ => rfl
theorem g57_130 : rg Z d rx_m57 130 L S (rz_mk h ι, w) = rg Z d rx_m57 8 L S (rz_mk h ι, w) := rz_s1 fun _ => rfl
theorem g57_133 : rg Z d rx_m57 133 [l0, l1, some (.int x), l3] S (rz_mk h ι, w) = rg Z d rx_m57 134 [l0, l1, some (.int x), l3] (.int x :: S) (rz_mk h ι, w) := rz_s1 fun _ => rfl
theorem g57_134 (c : narrow .boolean (.int x) = .int x) : rg Z d rx_m57 134 L [.int x] (rz_mk h ι, w) = some (.inl (some (.int x)), (rz_mk h ι, w)) := rz_reti rfl rfl c
theorem e57 : rz_f Z (d + 1) 57 [.ref t0, .int s1] σ = rg Z d rx_m57 0 [some (.ref t0), some (.int s1), none, none] [] σ := rz_f_eq rfl (Nat.le_of_ble_eq_true rfl)
theorem g58_0 : rg Z d rx_m58 0 [some (.ref a), l1, l2] S (rz_mk h ι, w) = rg Z d rx_m58 1 [some (.ref a), l1, l2] (.ref a :: S) (rz_mk h ι, w) := rz_s1 fun _ => rfl
theorem g58_1 (c : rz_fR h a 6 0) : rg Z d rx_m58 1 L (.ref a :: S) (rz_mk h ι, w) = rg Z d rx_m58 4 L (rz_rv h a 0 :: S) (rz_mk h ι, w) := rz_gR rfl (by decide) c
theorem g58_4 (c : rz_oc h a 9) : rg Z d rx_m58 4 L (.ref a :: []) (rz_mk h ι, w) = rz_k true (rz_f Z d 98 [.ref a] (rz_mk h ι, w)) (fun v σ' => rg Z d rx_m58 7 L (v.toList ++ []) σ') := rz_cv (pc := 4) (n := 0) (mi := 98) (S := .ref a :: []) (rest := []) rfl rfl (Nat.le_of_ble_eq_true rfl) (Nat.le_of_ble_eq_true rfl) c
theorem g58_7 : rg Z d rx_m58 7 L (.int x :: S) (rz_mk h ι, w) = if x = 0 then rg Z d rx_m58 43 L S (rz_mk h ι, w) else rg Z d rx_m58 10 L S (rz_mk h ι, w) := rz_if1 (pc := 7) (t := 43) (off := 36) (cc := .eq) (by decide) rfl
theorem g58_10 : rg Z d rx_m58 10 [some (.ref a), l1, l2] S (rz_mk h ι, w) = rg Z d rx_m58 11 [some (.ref a), l1, l2] (.ref a :: S) (rz_mk h ι, w) := rz_s1 fun _ => rfl
theorem g58_11 (c : rz_fR h a 6 0) : rg Z d rx_m58 11 L (.ref a :: S) (rz_mk h ι, w) = rg Z d rx_m58 14 L (rz_rv h a 0 :: S) (rz_mk h ι, w) := rz_gR rfl (by decide) c
theorem g58_14 : rg Z d rx_m58 14 L S (rz_mk h ι, w) = rg Z d rx_m58 17 L (.int 999 :: S) (rz_mk h ι, w) := rz_s1 fun _ => rfl
theorem g58_17 (c : rz_oc h a 9) : rg Z d rx_m58 17 L (v1 :: .ref a :: []) (rz_mk h ι, w) = rz_k true (rz_f Z d 99 [.ref a, v1] (rz_mk h ι, w)) (fun v σ' => rg Z d rx_m58 20 L (v.toList ++ []) σ') := rz_cv (pc := 17) (n := 1) (mi := 99) (S := v1 :: .ref a :: []) (rest := []) rfl rfl (Nat.le_of_ble_eq_true rfl) (Nat.le_of_ble_eq_true rfl) c
theorem g58_20 : rg Z d rx_m58 20 [l0, some (.int z), l2] (.int x :: S) (rz_mk h ι, w) = rg Z d rx_m58 21 [l0, some (.int z), some (.int x)] S (rz_mk h ι, w) := rz_s1 fun _ => rfl
theorem g58_21 : rg Z d rx_m58 21 [l0, l1, some (.int x)] S (rz_mk h ι, w) = rg Z d rx_m58 22 [l0, l1, some (.int x)] (.int x :: S) (rz_mk h ι, w) := rz_s1 fun _ => rfl
theorem g58_22 : rg Z d rx_m58 22 L S (rz_mk h ι, w) = rg Z d rx_m58 23 L (.int (-1) :: S) (rz_mk h ι, w) := rz_s1 fun _ => rfl
theorem g58_23 : rg Z d rx_m58 23 L (.int y :: .int x :: S) (rz_mk h ι, w) = if x = y then rg Z d rx_m58 41 L S (rz_mk h ι, w) else rg Z d rx_m58 26 L S (rz_mk h ι, w) := rz_if2 (pc := 23) (t := 41) (off := 18) (cc := .eq) (by decide) rfl
theorem g58_26 : rg Z d rx_m58 26 [some (.ref a), l1, l2] S (rz_mk h ι, w) = rg Z d rx_m58 27 [some (.ref a), l1, l2] (.ref a :: S) (rz_mk h ι, w) := rz_s1 fun _ => rfl
theorem g58_27 : rg Z d rx_m58 27 L S (rz_mk h ι, w) = rg Z d rx_m58 29 L (.int 100 :: S) (rz_mk h ι, w) := rz_s1 fun _ => rfl
theorem g58_29 : rg Z d rx_m58 29 [l0, l1, some (.int x)] S (rz_mk h ι, w) = rg Z d rx_m58 30 [l0, l1, some (.int x)] (.int x :: S) (rz_mk h ι, w) := rz_s1 fun _ => rfl
theorem g58_30 : rg Z d rx_m58 30 L (.int y :: .int x :: S) (rz_mk h ι, w) = rg Z d rx_m58 31 L (.int (x + y) :: S) (rz_mk h ι, w) := rz_s1 fun _ => rfl
theorem g58_31 (c : rz_oc h a 6) : rg Z d rx_m58 31 L (v1 :: .ref a :: []) (rz_mk h ι, w) = rz_k true (rz_f Z d 62 [.ref a, v1] (rz_mk h ι, w)) (fun v σ' => rg Z d rx_m58 34 L (v.toList ++ []) σ') := rz_cv (pc := 31) (n := 1) (mi := 62) (S := v1 :: .ref a :: []) (rest := []) rfl rfl (Nat.le_of_ble_eq_true rfl) (Nat.le_of_ble_eq_true rfl) c
theorem g58_34 : rg Z d rx_m58 34 L (.int x :: S) (rz_mk h ι, w) = if x = 0 then rg Z d rx_m58 41 L S (rz_mk h ι, w) else rg Z d rx_m58 37 L S (rz_mk h ι, w) := rz_if1 (pc := 34) (t := 41) (off := 7) (cc := .eq) (by decide) rfl
theorem g58_37 : rg Z d rx_m58 37 L S (rz_mk h ι, w) = rg Z d rx_m58 38 L (.int 1 :: S) (rz_mk h ι, w) := rz_s1 fun _ => rfl
theorem g58_38 : rg Z d rx_m58 38 L S (rz_mk h ι, w) = rg Z d rx_m58 42 L S (rz_mk h ι, w) := rz_s1 fun _ => rfl
theorem g58_41 : rg Z d rx_m58 41 L S (rz_mk h ι, w) = rg Z d rx_m58 42 L (.int 0 :: S) (rz_mk h ι, w) := rz_s1 fun _ => rfl
theorem g58_42 (c : narrow .boolean (.int x) = .int x) : rg Z d rx_m58 42 L [.int x] (rz_mk h ι, w) = some (.inl (some (.int x)), (rz_mk h ι, w)) := rz_reti rfl rfl c
theorem g58_43 : rg Z d rx_m58 43 [some (.ref a), l1, l2] S (rz_mk h ι, w) = rg Z d rx_m58 44 [some (.ref a), l1, l2] (.ref a :: S) (rz_mk h ι, w) := rz_s1 fun _ => rfl
theorem g58_44 (c : rz_fR h a 6 0) : rg Z d rx_m58 44 L (.ref a :: S) (rz_mk h ι, w) = rg Z d rx_m58 47 L (rz_rv h a 0 :: S) (rz_mk h ι, w) := rz_gR rfl (by decide) c
theorem g58_47 (c : rz_oc h a 9) : rg Z d rx_m58 47 L (.ref a :: []) (rz_mk h ι, w) = rz_k true (rz_f Z d 100 [.ref a] (rz_mk h ι, w)) (fun v σ' => rg Z d rx_m58 50 L (v.toList ++ []) σ') := rz_cv (pc := 47) (n := 0) (mi := 100) (S := .ref a :: []) (rest := []) rfl rfl (Nat.le_of_ble_eq_true rfl) (Nat.le_of_ble_eq_true rfl) c
theorem g58_50 : rg Z d rx_m58 50 [some (.ref a), l1, l2] S (rz_mk h ι, w) = rg Z d rx_m58 51 [some (.ref a), l1, l2] (.ref a :: S) (rz_mk h ι, w) := rz_s1 fun _ => rfl
theorem g58_51 (c : rz_fR h a 6 0) : rg Z d rx_m58 51 L (.ref a :: S) (rz_mk h ι, w) = rg Z d rx_m58 54 L (rz_rv h a 0 :: S) (rz_mk h ι, w) := rz_gR rfl (by decide) c
theorem g58_54 : rg Z d rx_m58 54 L S (rz_mk h ι, w) = rg Z d rx_m58 56 L (.ref (Z.2.2.2 4) :: S) (rz_mk h ι, w) := rz_s1 fun _ => rfl
theorem g58_56 (c : rz_oc h a 9) : rg Z d rx_m58 56 L (v1 :: .ref a :: []) (rz_mk h ι, w) = rz_k true (rz_f Z d 101 [.ref a, v1] (rz_mk h ι, w)) (fun v σ' => rg Z d rx_m58 59 L (v.toList ++ []) σ') := rz_cv (pc := 56) (n := 1) (mi := 101) (S := v1 :: .ref a :: []) (rest := []) rfl rfl (Nat.le_of_ble_eq_true rfl) (Nat.le_of_ble_eq_true rfl) c
theorem g58_59 : rg Z d rx_m58 59 L (.int x :: S) (rz_mk h ι, w) = if x = 0 then rg Z d rx_m58 68 L S (rz_mk h ι, w) else rg Z d rx_m58 62 L S (rz_mk h ι, w) := rz_if1 (pc := 59) (t := 68) (off := 9) (cc := .eq) (by decide) rfl
theorem g58_62 : rg Z d rx_m58 62 [some (.ref a), l1, l2] S (rz_mk h ι, w) = rg Z d rx_m58 63 [some (.ref a), l1, l2] (.ref a :: S) (rz_mk h ι, w) := rz_s1 fun _ => rfl
theorem g58_63 : rg Z d rx_m58 63 [l0, some (.int x), l2] S (rz_mk h ι, w) = rg Z d rx_m58 64 [l0, some (.int x), l2] (.int x :: S) (rz_mk h ι, w) := rz_s1 fun _ => rfl
theorem g58_64 (c : rz_oc h a 6) : rg Z d rx_m58 64 L (v1 :: .ref a :: []) (rz_mk h ι, w) = rz_k true (rz_f Z d 59 [.ref a, v1] (rz_mk h ι, w)) (fun v σ' => rg Z d rx_m58 67 L (v.toList ++ []) σ') := rz_cv (pc := 64) (n := 1) (mi := 59) (S := v1 :: .ref a :: []) (rest := []) rfl rfl (Nat.le_of_ble_eq_true rfl) (Nat.le_of_ble_eq_true rfl) c
theorem g58_67 (c : narrow .boolean (.int x) = .int x) : rg Z d rx_m58 67 L [.int x] (rz_mk h ι, w) = some (.inl (some (.int x)), (rz_mk h ι, w)) := rz_reti rfl rfl c
theorem g58_68 : rg Z d rx_m58 68 [some (.ref a), l1, l2] S (rz_mk h ι, w) = rg Z d rx_m58 69 [some (.ref a), l1, l2] (.ref a :: S) (rz_mk h ι, w) := rz_s1 fun _ => rfl
theorem g58_69 (c : rz_fR h a 6 0) : rg Z d rx_m58 69 L (.ref a :: S) (rz_mk h ι, w) = rg Z d rx_m58 72 L (rz_rv h a 0 :: S) (rz_mk h ι, w) := rz_gR rfl (by decide) c
theorem g58_72 : rg Z d rx_m58 72 L S (rz_mk h ι, w) = rg Z d rx_m58 74 L (.ref (Z.2.2.2 5) :: S) (rz_mk h ι, w) := rz_s1 fun _ => rfl
theorem g58_74 (c : rz_oc h a 9) : rg Z d rx_m58 74 L (v1 :: .ref a :: []) (rz_mk h ι, w) = rz_k true (rz_f Z d 101 [.ref a, v1] (rz_mk h ι, w)) (fun v σ' => rg Z d rx_m58 77 L (v.toList ++ []) σ') := rz_cv (pc := 74) (n := 1) (mi := 101) (S := v1 :: .ref a :: []) (rest := []) rfl rfl (Nat.le_of_ble_eq_true rfl) (Nat.le_of_ble_eq_true rfl) c
theorem g58_77 : rg Z d rx_m58 77 L (.int x :: S) (rz_mk h ι, w) = if x = 0 then rg Z d rx_m58 87 L S (rz_mk h ι, w) else rg Z d rx_m58 80 L S (rz_mk h ι, w) := rz_if1 (pc := 77) (t := 87) (off := 10) (cc := .eq) (by decide) rfl
theorem g58_80 : rg Z d rx_m58 80 [some (.ref a), l1, l2] S (rz_mk h ι, w) = rg Z d rx_m58 81 [some (.ref a), l1, l2] (.ref a :: S) (rz_mk h ι, w) := rz_s1 fun _ => rfl
theorem g58_81 : rg Z d rx_m58 81 [l0, some (.int x), l2] S (rz_mk h ι, w) = rg Z d rx_m58 82 [l0, some (.int x), l2] (.int x :: S) (rz_mk h ι, w) := rz_s1 fun _ => rfl
theorem g58_82 : rg Z d rx_m58 82 L S (rz_mk h ι, w) = rg Z d rx_m58 83 L (.int 5 :: S) (rz_mk h ι, w) := rz_s1 fun _ => rfl
theorem g58_83 (c : rz_oc h a 6) : rg Z d rx_m58 83 L (v2 :: v1 :: .ref a :: []) (rz_mk h ι, w) = rz_k true (rz_f Z d 60 [.ref a, v1, v2] (rz_mk h ι, w)) (fun v σ' => rg Z d rx_m58 86 L (v.toList ++ []) σ') := rz_cv (pc := 83) (n := 2) (mi := 60) (S := v2 :: v1 :: .ref a :: []) (rest := []) rfl rfl (Nat.le_of_ble_eq_true rfl) (Nat.le_of_ble_eq_true rfl) c
theorem g58_86 (c : narrow .boolean (.int x) = .int x) : rg Z d rx_m58 86 L [.int x] (rz_mk h ι, w) = some (.inl (some (.int x)), (rz_mk h ι, w)) := rz_reti rfl rfl c
theorem g58_87 : rg Z d rx_m58 87 [some (.ref a), l1, l2] S (rz_mk h ι, w) = rg Z d rx_m58 88 [some (.ref a), l1, l2] (.ref a :: S) (rz_mk h ι, w) := rz_s1 fun _ => rfl
theorem g58_88 (c : rz_fR h a 6 0) : rg Z d rx_m58 88 L (.ref a :: S) (rz_mk h ι, w) = rg Z d rx_m58 91 L (rz_rv h a 0 :: S) (rz_mk h ι, w) := rz_gR rfl (by decide) c
theorem g58_91 : rg Z d rx_m58 91 L S (rz_mk h ι, w) = rg Z d rx_m58 93 L (.ref (Z.2.2.2 6) :: S) (rz_mk h ι, w) := rz_s1 fun _ => rfl
theorem g58_93 (c : rz_oc h a 9) : rg Z d rx_m58 93 L (v1 :: .ref a :: []) (rz_mk h ι, w) = rz_k true (rz_f Z d 101 [.ref a, v1] (rz_mk h ι, w)) (fun v σ' => rg Z d rx_m58 96 L (v.toList ++ []) σ') := rz_cv (pc := 93) (n := 1) (mi := 101) (S := v1 :: .ref a :: []) (rest := []) rfl rfl (Nat.le_of_ble_eq_true rfl) (Nat.le_of_ble_eq_true rfl) c
theorem g58_96 : rg Z d rx_m58 96 L (.int x :: S) (rz_mk h ι, w) = if x = 0 then rg Z d rx_m58 107 L S (rz_mk h ι, w) else rg Z d rx_m58 99 L S (rz_mk h ι, w) := rz_if1 (pc := 96) (t := 107) (off := 11) (cc := .eq) (by decide) rfl
theorem g58_99 : rg Z d rx_m58 99 [some (.ref a), l1, l2] S (rz_mk h ι, w) = rg Z d rx_m58 100 [some (.ref a), l1, l2] (.ref a :: S) (rz_mk h ι, w) := rz_s1 fun _ => rfl
theorem g58_100 : rg Z d rx_m58 100 [l0, some (.int x), l2] S (rz_mk h ι, w) = rg Z d rx_m58 101 [l0, some (.int x), l2] (.int x :: S) (rz_mk h ι, w) := rz_s1 fun _ => rfl
theorem g58_101 : rg Z d rx_m58 101 L S (rz_mk h ι, w) = rg Z d rx_m58 103 L (.int 6 :: S) (rz_mk h ι, w) := rz_s1 fun _ => rfl
theorem g58_103 (c : rz_oc h a 6) : rg Z d rx_m58 103 L (v2 :: v1 :: .ref a :: []) (rz_mk h ι, w) = rz_k true (rz_f Z d 60 [.ref a, v1, v2] (rz_mk h ι, w)) (fun v σ' => rg Z d rx_m58 106 L (v.toList ++ []) σ') := rz_cv (pc := 103) (n := 2) (mi := 60) (S := v2 :: v1 :: .ref a :: []) (rest := []) rfl rfl (Nat.le_of_ble_eq_true rfl) (Nat.le_of_ble_eq_true rfl) c
theorem g58_106 (c : narrow .boolean (.int x) = .int x) : rg Z d rx_m58 106 L [.int x] (rz_mk h ι, w) = some (.inl (some (.int x)), (rz_mk h ι, w)) := rz_reti rfl rfl c
theorem g58_107 : rg Z d rx_m58 107 [some (.ref a), l1, l2] S (rz_mk h ι, w) = rg Z d rx_m58 108 [some (.ref a), l1, l2] (.ref a :: S) (rz_mk h ι, w) := rz_s1 fun _ => rfl
theorem g58_108 (c : rz_oc h a 6) : rg Z d rx_m58 108 L (.ref a :: []) (rz_mk h ι, w) = rz_k true (rz_f Z d 63 [.ref a] (rz_mk h ι, w)) (fun v σ' => rg Z d rx_m58 111 L (v.toList ++ []) σ') := rz_cv (pc := 108) (n := 0) (mi := 63) (S := .ref a :: []) (rest := []) rfl rfl (Nat.le_of_ble_eq_true rfl) (Nat.le_of_ble_eq_true rfl) c
theorem g58_111 : rg Z d rx_m58 111 [l0, some (.int z), l2] (.int x :: S) (rz_mk h ι, w) = rg Z d rx_m58 112 [l0, some (.int z), some (.int x)] S (rz_mk h ι, w) := rz_s1 fun _ => rfl
theorem g58_112 : rg Z d rx_m58 112 [l0, l1, some (.int x)] S (rz_mk h ι, w) = rg Z d rx_m58 113 [l0, l1, some (.int x)] (.int x :: S) (rz_mk h ι, w) := rz_s1 fun _ => rfl
theorem g58_113 : rg Z d rx_m58 113 L S (rz_mk h ι, w) = rg Z d rx_m58 114 L (.int (-1) :: S) (rz_mk h ι, w) := rz_s1 fun _ => rfl
theorem g58_114 : rg Z d rx_m58 114 L (.int y :: .int x :: S) (rz_mk h ι, w) = if x = y then rg Z d rx_m58 117 L S (rz_mk h ι, w) else rg Z d rx_m58 128 L S (rz_mk h ι, w) := rz_if2 (pc := 114) (t := 128) (off := 14) (cc := .ne) (by decide) rfl
theorem g58_117 : rg Z d rx_m58 117 [some (.ref a), l1, l2] S (rz_mk h ι, w) = rg Z d rx_m58 118 [some (.ref a), l1, l2] (.ref a :: S) (rz_mk h ι, w) := rz_s1 fun _ => rfl
theorem g58_118 (c : rz_fR h a 6 0) : rg Z d rx_m58 118 L (.ref a :: S) (rz_mk h ι, w) = rg Z d rx_m58 121 L (rz_rv h a 0 :: S) (rz_mk h ι, w) := rz_gR rfl (by decide) c
theorem g58_121 : rg Z d rx_m58 121 L S (rz_mk h ι, w) = rg Z d rx_m58 122 L (.int 1 :: S) (rz_mk h ι, w) := rz_s1 fun _ => rfl
theorem g58_122 (c : rz_oc h a 9) : rg Z d rx_m58 122 L (v1 :: .ref a :: []) (rz_mk h ι, w) = rz_k true (rz_f Z d 92 [.ref a, v1] (rz_mk h ι, w)) (fun v σ' => rg Z d rx_m58 125 L (v.toList ++ []) σ') := rz_cv (pc := 122) (n := 1) (mi := 92) (S := v1 :: .ref a :: []) (rest := []) rfl rfl (Nat.le_of_ble_eq_true rfl) (Nat.le_of_ble_eq_true rfl) c
theorem g58_125 : rg Z d rx_m58 125 L S (rz_mk h ι, w) = rg Z d rx_m58 136 L S (rz_mk h ι, w) := rz_s1 fun _ => rfl
theorem g58_128 : rg Z d rx_m58 128 [some (.ref a), l1, l2] S (rz_mk h ι, w) = rg Z d rx_m58 129 [some (.ref a), l1, l2] (.ref a :: S) (rz_mk h ι, w) := rz_s1 fun _ => rfl
theorem g58_129 : rg Z d rx_m58 129 L S (rz_mk h ι, w) = rg Z d rx_m58 131 L (.int 10 :: S) (rz_mk h ι, w) := rz_s1 fun _ => rfl
theorem g58_131 : rg Z d rx_m58 131 [l0, l1, some (.int x)] S (rz_mk h ι, w) = rg Z d rx_m58 132 [l0, l1, some (.int x)] (.int x :: S) (rz_mk h ι, w) := rz_s1 fun _ => rfl
theorem g58_132 : rg Z d rx_m58 132 L (.int y :: .int x :: S) (rz_mk h ι, w) = rg Z d rx_m58 133 L (.int (x + y) :: S) (rz_mk h ι, w) := rz_s1 fun _ => rfl
theorem g58_133 (c : rz_oc h a 6) : rg Z d rx_m58 133 L (v1 :: .ref a :: []) (rz_mk h ι, w) = rz_k true (rz_f Z d 62 [.ref a, v1] (rz_mk h ι, w)) (fun v σ' => rg Z d rx_m58 136 L (v.toList ++ []) σ') := rz_cv (pc := 133) (n := 1) (mi := 62) (S := v1 :: .ref a :: []) (rest := []) rfl rfl (Nat.le_of_ble_eq_true rfl) (Nat.le_of_ble_eq_true rfl) c
theorem g58_136 (c : narrow .boolean (.int x) = .int x) : rg Z d rx_m58 136 L [.int x] (rz_mk h ι, w) = some (.inl (some (.int x)), (rz_mk h ι, w)) := rz_reti rfl rfl c
theorem e58 : rz_f Z (d + 1) 58 [.ref t0, .int s1] σ = rg Z d rx_m58 0 [some (.ref t0), some (.int s1), none] [] σ := rz_f_eq rfl (Nat.le_of_ble_eq_true rfl)
theorem g59_0 : rg Z d rx_m59 0 [some (.ref a), l1] S (rz_mk h ι, w) = rg Z d rx_m59 1 [some (.ref a), l1] (.ref a :: S) (rz_mk h ι, w) := rz_s1 fun _ => rfl
theorem g59_1 (c : rz_fR h a 6 0) : rg Z d rx_m59 1 L (.ref a :: S) (rz_mk h ι, w) = rg Z d rx_m59 4 L (rz_rv h a 0 :: S) (rz_mk h ι, w) := rz_gR rfl (by decide) c
theorem g59_4 (c : rz_oc h a 9) : rg Z d rx_m59 4 L (.ref a :: []) (rz_mk h ι, w) = rz_k true (rz_f Z d 94 [.ref a] (rz_mk h ι, w)) (fun v σ' => rg Z d rx_m59 7 L (v.toList ++ []) σ') := rz_cv (pc := 4) (n := 0) (mi := 94) (S := .ref a :: []) (rest := []) rfl rfl (Nat.le_of_ble_eq_true rfl) (Nat.le_of_ble_eq_true rfl) c
theorem g59_7 : rg Z d rx_m59 7 L S (rz_mk h ι, w) = rg Z d rx_m59 9 L (.int 40 :: S) (rz_mk h ι, w) := rz_s1 fun _ => rfl
theorem g59_9 : rg Z d rx_m59 9 L (.int y :: .int x :: S) (rz_mk h ι, w) = if x = y then rg Z d rx_m59 21 L S (rz_mk h ι, w) else rg Z d rx_m59 12 L S (rz_mk h ι, w) := rz_if2 (pc := 9) (t := 21) (off := 12) (cc := .eq) (by decide) rfl
theorem g59_12 : rg Z d rx_m59 12 [some (.ref a), l1] S (rz_mk h ι, w) = rg Z d rx_m59 13 [some (.ref a), l1] (.ref a :: S) (rz_mk h ι, w) := rz_s1 fun _ => rfl
theorem g59_13 (c : rz_fR h a 6 0) : rg Z d rx_m59 13 L (.ref a :: S) (rz_mk h ι, w) = rg Z d rx_m59 16 L (rz_rv h a 0 :: S) (rz_mk h ι, w) := rz_gR rfl (by decide) c
theorem g59_16 : rg Z d rx_m59 16 L S (rz_mk h ι, w) = rg Z d rx_m59 17 L (.int 1 :: S) (rz_mk h ι, w) := rz_s1 fun _ => rfl
theorem g59_17 (c : rz_oc h a 9) : rg Z d rx_m59 17 L (v1 :: .ref a :: []) (rz_mk h ι, w) = rz_k true (rz_f Z d 92 [.ref a, v1] (rz_mk h ι, w)) (fun v σ' => rg Z d rx_m59 20 L (v.toList ++ []) σ') := rz_cv (pc := 17) (n := 1) (mi := 92) (S := v1 :: .ref a :: []) (rest := []) rfl rfl (Nat.le_of_ble_eq_true rfl) (Nat.le_of_ble_eq_true rfl) c
theorem g59_20 (c : narrow .boolean (.int x) = .int x) : rg Z d rx_m59 20 L [.int x] (rz_mk h ι, w) = some (.inl (some (.int x)), (rz_mk h ι, w)) := rz_reti rfl rfl c
theorem g59_21 : rg Z d rx_m59 21 [some (.ref a), l1] S (rz_mk h ι, w) = rg Z d rx_m59 22 [some (.ref a), l1] (.ref a :: S) (rz_mk h ι, w) := rz_s1 fun _ => rfl
theorem g59_22 : rg Z d rx_m59 22 [l0, some (.int x)] S (rz_mk h ι, w) = rg Z d rx_m59 23 [l0, some (.int x)] (.int x :: S) (rz_mk h ι, w) := rz_s1 fun _ => rfl
theorem g59_23 (c : rz_oc h a 6) : rg Z d rx_m59 23 L (v1 :: .ref a :: []) (rz_mk h ι, w) = rz_k true (rz_f Z d 61 [.ref a, v1] (rz_mk h ι, w)) (fun v σ' => rg Z d rx_m59 26 L (v.toList ++ []) σ') := rz_cv (pc := 23) (n := 1) (mi := 61) (S := v1 :: .ref a :: []) (rest := []) rfl rfl (Nat.le_of_ble_eq_true rfl) (Nat.le_of_ble_eq_true rfl) c
theorem g59_26 : rg Z d rx_m59 26 L (.int x :: S) (rz_mk h ι, w) = if x = 0 then rg Z d rx_m59 67 L S (rz_mk h ι, w) else rg Z d rx_m59 29 L S (rz_mk h ι, w) := rz_if1 (pc := 26) (t := 67) (off := 41) (cc := .eq) (by decide) rfl
theorem g59_29 : rg Z d rx_m59 29 [some (.ref a), l1] S (rz_mk h ι, w) = rg Z d rx_m59 30 [some (.ref a), l1] (.ref a :: S) (rz_mk h ι, w) := rz_s1 fun _ => rfl
theorem g59_30 (c : rz_fR h a 6 0) : rg Z d rx_m59 30 L (.ref a :: S) (rz_mk h ι, w) = rg Z d rx_m59 33 L (rz_rv h a 0 :: S) (rz_mk h ι, w) := rz_gR rfl (by decide) c
theorem g59_33 : rg Z d rx_m59 33 L S (rz_mk h ι, w) = rg Z d rx_m59 35 L (.int 40 :: S) (rz_mk h ι, w) := rz_s1 fun _ => rfl
theorem g59_35 (c : rz_oc h a 9) : rg Z d rx_m59 35 L (v1 :: .ref a :: []) (rz_mk h ι, w) = rz_k true (rz_f Z d 96 [.ref a, v1] (rz_mk h ι, w)) (fun v σ' => rg Z d rx_m59 38 L (v.toList ++ []) σ') := rz_cv (pc := 35) (n := 1) (mi := 96) (S := v1 :: .ref a :: []) (rest := []) rfl rfl (Nat.le_of_ble_eq_true rfl) (Nat.le_of_ble_eq_true rfl) c
theorem g59_38 : rg Z d rx_m59 38 L (.int x :: S) (rz_mk h ι, w) = if x = 0 then rg Z d rx_m59 67 L S (rz_mk h ι, w) else rg Z d rx_m59 41 L S (rz_mk h ι, w) := rz_if1 (pc := 38) (t := 67) (off := 29) (cc := .eq) (by decide) rfl
theorem g59_41 : rg Z d rx_m59 41 [some (.ref a), l1] S (rz_mk h ι, w) = rg Z d rx_m59 42 [some (.ref a), l1] (.ref a :: S) (rz_mk h ι, w) := rz_s1 fun _ => rfl
theorem g59_42 : rg Z d rx_m59 42 [l0, some (.int x)] S (rz_mk h ι, w) = rg Z d rx_m59 43 [l0, some (.int x)] (.int x :: S) (rz_mk h ι, w) := rz_s1 fun _ => rfl
theorem g59_43 : rg Z d rx_m59 43 L S (rz_mk h ι, w) = rg Z d rx_m59 44 L (.int 1 :: S) (rz_mk h ι, w) := rz_s1 fun _ => rfl
theorem g59_44 : rg Z d rx_m59 44 L (.int y :: .int x :: S) (rz_mk h ι, w) = rg Z d rx_m59 45 L (.int (x + y) :: S) (rz_mk h ι, w) := rz_s1 fun _ => rfl
theorem g59_45 (c : rz_oc h a 6) : rg Z d rx_m59 45 L (v1 :: .ref a :: []) (rz_mk h ι, w) = rz_k true (rz_f Z d 56 [.ref a, v1] (rz_mk h ι, w)) (fun v σ' => rg Z d rx_m59 48 L (v.toList ++ []) σ') := rz_cv (pc := 45) (n := 1) (mi := 56) (S := v1 :: .ref a :: []) (rest := []) rfl rfl (Nat.le_of_ble_eq_true rfl) (Nat.le_of_ble_eq_true rfl) c
theorem g59_48 : rg Z d rx_m59 48 L (.int x :: S) (rz_mk h ι, w) = if x = 0 then rg Z d rx_m59 67 L S (rz_mk h ι, w) else rg Z d rx_m59 51 L S (rz_mk h ι, w) := rz_if1 (pc := 48) (t := 67) (off := 19) (cc := .eq) (by decide) rfl
theorem g59_51 : rg Z d rx_m59 51 [some (.ref a), l1] S (rz_mk h ι, w) = rg Z d rx_m59 52 [some (.ref a), l1] (.ref a :: S) (rz_mk h ι, w) := rz_s1 fun _ => rfl
theorem g59_52 (c : rz_fR h a 6 0) : rg Z d rx_m59 52 L (.ref a :: S) (rz_mk h ι, w) = rg Z d rx_m59 55 L (rz_rv h a 0 :: S) (rz_mk h ι, w) := rz_gR rfl (by decide) c
theorem g59_55 : rg Z d rx_m59 55 L S (rz_mk h ι, w) = rg Z d rx_m59 57 L (.int 41 :: S) (rz_mk h ι, w) := rz_s1 fun _ => rfl
theorem g59_57 (c : rz_oc h a 9) : rg Z d rx_m59 57 L (v1 :: .ref a :: []) (rz_mk h ι, w) = rz_k true (rz_f Z d 96 [.ref a, v1] (rz_mk h ι, w)) (fun v σ' => rg Z d rx_m59 60 L (v.toList ++ []) σ') := rz_cv (pc := 57) (n := 1) (mi := 96) (S := v1 :: .ref a :: []) (rest := []) rfl rfl (Nat.le_of_ble_eq_true rfl) (Nat.le_of_ble_eq_true rfl) c
theorem g59_60 : rg Z d rx_m59 60 L (.int x :: S) (rz_mk h ι, w) = if x = 0 then rg Z d rx_m59 67 L S (rz_mk h ι, w) else rg Z d rx_m59 63 L S (rz_mk h ι, w) := rz_if1 (pc := 60) (t := 67) (off := 7) (cc := .eq) (by decide) rfl
theorem g59_63 : rg Z d rx_m59 63 L S (rz_mk h ι, w) = rg Z d rx_m59 64 L (.int 1 :: S) (rz_mk h ι, w) := rz_s1 fun _ => rfl
theorem g59_64 : rg Z d rx_m59 64 L S (rz_mk h ι, w) = rg Z d rx_m59 68 L S (rz_mk h ι, w) := rz_s1 fun _ => rfl
theorem g59_67 : rg Z d rx_m59 67 L S (rz_mk h ι, w) = rg Z d rx_m59 68 L (.int 0 :: S) (rz_mk h ι, w) := rz_s1 fun _ => rfl
theorem g59_68 (c : narrow .boolean (.int x) = .int x) : rg Z d rx_m59 68 L [.int x] (rz_mk h ι, w) = some (.inl (some (.int x)), (rz_mk h ι, w)) := rz_reti rfl rfl c
theorem e59 : rz_f Z (d + 1) 59 [.ref t0, .int s1] σ = rg Z d rx_m59 0 [some (.ref t0), some (.int s1)] [] σ := rz_f_eq rfl (Nat.le_of_ble_eq_true rfl)
theorem g60_0 : rg Z d rx_m60 0 [some (.ref a), l1, l2] S (rz_mk h ι, w) = rg Z d rx_m60 1 [some (.ref a), l1, l2] (.ref a :: S) (rz_mk h ι, w) := rz_s1 fun _ => rfl
theorem g60_1 : rg Z d rx_m60 1 [l0, some (.int x), l2] S (rz_mk h ι, w) = rg Z d rx_m60 2 [l0, some (.int x), l2] (.int x :: S) (rz_mk h ι, w) := rz_s1 fun _ => rfl
theorem g60_2 (c : rz_oc h a 6) : rg Z d rx_m60 2 L (v1 :: .ref a :: []) (rz_mk h ι, w) = rz_k true (rz_f Z d 61 [.ref a, v1] (rz_mk h ι, w)) (fun v σ' => rg Z d rx_m60 5 L (v.toList ++ []) σ') := rz_cv (pc := 2) (n := 1) (mi := 61) (S := v1 :: .ref a :: []) (rest := []) rfl rfl (Nat.le_of_ble_eq_true rfl) (Nat.le_of_ble_eq_true rfl) c
theorem g60_5 : rg Z d rx_m60 5 L (.int x :: S) (rz_mk h ι, w) = if x = 0 then rg Z d rx_m60 76 L S (rz_mk h ι, w) else rg Z d rx_m60 8 L S (rz_mk h ι, w) := rz_if1 (pc := 5) (t := 76) (off := 71) (cc := .eq) (by decide) rfl
theorem g60_8 : rg Z d rx_m60 8 [some (.ref a), l1, l2] S (rz_mk h ι, w) = rg Z d rx_m60 9 [some (.ref a), l1, l2] (.ref a :: S) (rz_mk h ι, w) := rz_s1 fun _ => rfl
theorem g60_9 (c : rz_fR h a 6 0) : rg Z d rx_m60 9 L (.ref a :: S) (rz_mk h ι, w) = rg Z d rx_m60 12 L (rz_rv h a 0 :: S) (rz_mk h ι, w) := rz_gR rfl (by decide) c
theorem g60_12 : rg Z d rx_m60 12 L S (rz_mk h ι, w) = rg Z d rx_m60 14 L (.int 91 :: S) (rz_mk h ι, w) := rz_s1 fun _ => rfl
theorem g60_14 (c : rz_oc h a 9) : rg Z d rx_m60 14 L (v1 :: .ref a :: []) (rz_mk h ι, w) = rz_k true (rz_f Z d 96 [.ref a, v1] (rz_mk h ι, w)) (fun v σ' => rg Z d rx_m60 17 L (v.toList ++ []) σ') := rz_cv (pc := 14) (n := 1) (mi := 96) (S := v1 :: .ref a :: []) (rest := []) rfl rfl (Nat.le_of_ble_eq_true rfl) (Nat.le_of_ble_eq_true rfl) c
theorem g60_17 : rg Z d rx_m60 17 L (.int x :: S) (rz_mk h ι, w) = if x = 0 then rg Z d rx_m60 76 L S (rz_mk h ι, w) else rg Z d rx_m60 20 L S (rz_mk h ι, w) := rz_if1 (pc := 17) (t := 76) (off := 59) (cc := .eq) (by decide) rfl
theorem g60_20 : rg Z d rx_m60 20 [some (.ref a), l1, l2] S (rz_mk h ι, w) = rg Z d rx_m60 21 [some (.ref a), l1, l2] (.ref a :: S) (rz_mk h ι, w) := rz_s1 fun _ => rfl
theorem g60_21 : rg Z d rx_m60 21 [l0, some (.int x), l2] S (rz_mk h ι, w) = rg Z d rx_m60 22 [l0, some (.int x), l2] (.int x :: S) (rz_mk h ι, w) := rz_s1 fun _ => rfl
theorem g60_22 : rg Z d rx_m60 22 L S (rz_mk h ι, w) = rg Z d rx_m60 23 L (.int 1 :: S) (rz_mk h ι, w) := rz_s1 fun _ => rfl
theorem g60_23 : rg Z d rx_m60 23 L (.int y :: .int x :: S) (rz_mk h ι, w) = rg Z d rx_m60 24 L (.int (x + y) :: S) (rz_mk h ι, w) := rz_s1 fun _ => rfl
theorem g60_24 (c : rz_oc h a 6) : rg Z d rx_m60 24 L (v1 :: .ref a :: []) (rz_mk h ι, w) = rz_k true (rz_f Z d 56 [.ref a, v1] (rz_mk h ι, w)) (fun v σ' => rg Z d rx_m60 27 L (v.toList ++ []) σ') := rz_cv (pc := 24) (n := 1) (mi := 56) (S := v1 :: .ref a :: []) (rest := []) rfl rfl (Nat.le_of_ble_eq_true rfl) (Nat.le_of_ble_eq_true rfl) c
theorem g60_27 : rg Z d rx_m60 27 L (.int x :: S) (rz_mk h ι, w) = if x = 0 then rg Z d rx_m60 76 L S (rz_mk h ι, w) else rg Z d rx_m60 30 L S (rz_mk h ι, w) := rz_if1 (pc := 27) (t := 76) (off := 49) (cc := .eq) (by decide) rfl
theorem g60_30 : rg Z d rx_m60 30 [some (.ref a), l1, l2] S (rz_mk h ι, w) = rg Z d rx_m60 31 [some (.ref a), l1, l2] (.ref a :: S) (rz_mk h ι, w) := rz_s1 fun _ => rfl
theorem g60_31 (c : rz_fR h a 6 0) : rg Z d rx_m60 31 L (.ref a :: S) (rz_mk h ι, w) = rg Z d rx_m60 34 L (rz_rv h a 0 :: S) (rz_mk h ι, w) := rz_gR rfl (by decide) c
theorem g60_34 : rg Z d rx_m60 34 L S (rz_mk h ι, w) = rg Z d rx_m60 36 L (.int 44 :: S) (rz_mk h ι, w) := rz_s1 fun _ => rfl
theorem g60_36 (c : rz_oc h a 9) : rg Z d rx_m60 36 L (v1 :: .ref a :: []) (rz_mk h ι, w) = rz_k true (rz_f Z d 96 [.ref a, v1] (rz_mk h ι, w)) (fun v σ' => rg Z d rx_m60 39 L (v.toList ++ []) σ') := rz_cv (pc := 36) (n := 1) (mi := 96) (S := v1 :: .ref a :: []) (rest := []) rfl rfl (Nat.le_of_ble_eq_true rfl) (Nat.le_of_ble_eq_true rfl) c
theorem g60_39 : rg Z d rx_m60 39 L (.int x :: S) (rz_mk h ι, w) = if x = 0 then rg Z d rx_m60 76 L S (rz_mk h ι, w) else rg Z d rx_m60 42 L S (rz_mk h ι, w) := rz_if1 (pc := 39) (t := 76) (off := 37) (cc := .eq) (by decide) rfl
theorem g60_42 : rg Z d rx_m60 42 [some (.ref a), l1, l2] S (rz_mk h ι, w) = rg Z d rx_m60 43 [some (.ref a), l1, l2] (.ref a :: S) (rz_mk h ι, w) := rz_s1 fun _ => rfl
theorem g60_43 : rg Z d rx_m60 43 [l0, some (.int x), l2] S (rz_mk h ι, w) = rg Z d rx_m60 44 [l0, some (.int x), l2] (.int x :: S) (rz_mk h ι, w) := rz_s1 fun _ => rfl
theorem g60_44 : rg Z d rx_m60 44 L S (rz_mk h ι, w) = rg Z d rx_m60 45 L (.int 1 :: S) (rz_mk h ι, w) := rz_s1 fun _ => rfl
theorem g60_45 : rg Z d rx_m60 45 L (.int y :: .int x :: S) (rz_mk h ι, w) = rg Z d rx_m60 46 L (.int (x + y) :: S) (rz_mk h ι, w) := rz_s1 fun _ => rfl
theorem g60_46 (c : rz_oc h a 6) : rg Z d rx_m60 46 L (v1 :: .ref a :: []) (rz_mk h ι, w) = rz_k true (rz_f Z d 56 [.ref a, v1] (rz_mk h ι, w)) (fun v σ' => rg Z d rx_m60 49 L (v.toList ++ []) σ') := rz_cv (pc := 46) (n := 1) (mi := 56) (S := v1 :: .ref a :: []) (rest := []) rfl rfl (Nat.le_of_ble_eq_true rfl) (Nat.le_of_ble_eq_true rfl) c
theorem g60_49 : rg Z d rx_m60 49 L (.int x :: S) (rz_mk h ι, w) = if x = 0 then rg Z d rx_m60 76 L S (rz_mk h ι, w) else rg Z d rx_m60 52 L S (rz_mk h ι, w) := rz_if1 (pc := 49) (t := 76) (off := 27) (cc := .eq) (by decide) rfl
theorem g60_52 : rg Z d rx_m60 52 [some (.ref a), l1, l2] S (rz_mk h ι, w) = rg Z d rx_m60 53 [some (.ref a), l1, l2] (.ref a :: S) (rz_mk h ι, w) := rz_s1 fun _ => rfl
theorem g60_53 (c : rz_fR h a 6 0) : rg Z d rx_m60 53 L (.ref a :: S) (rz_mk h ι, w) = rg Z d rx_m60 56 L (rz_rv h a 0 :: S) (rz_mk h ι, w) := rz_gR rfl (by decide) c
theorem g60_56 : rg Z d rx_m60 56 L S (rz_mk h ι, w) = rg Z d rx_m60 58 L (.int 93 :: S) (rz_mk h ι, w) := rz_s1 fun _ => rfl
theorem g60_58 (c : rz_oc h a 9) : rg Z d rx_m60 58 L (v1 :: .ref a :: []) (rz_mk h ι, w) = rz_k true (rz_f Z d 96 [.ref a, v1] (rz_mk h ι, w)) (fun v σ' => rg Z d rx_m60 61 L (v.toList ++ []) σ') := rz_cv (pc := 58) (n := 1) (mi := 96) (S := v1 :: .ref a :: []) (rest := []) rfl rfl (Nat.le_of_ble_eq_true rfl) (Nat.le_of_ble_eq_true rfl) c
theorem g60_61 : rg Z d rx_m60 61 L (.int x :: S) (rz_mk h ι, w) = if x = 0 then rg Z d rx_m60 76 L S (rz_mk h ι, w) else rg Z d rx_m60 64 L S (rz_mk h ι, w) := rz_if1 (pc := 61) (t := 76) (off := 15) (cc := .eq) (by decide) rfl
theorem g60_64 : rg Z d rx_m60 64 [some (.ref a), l1, l2] S (rz_mk h ι, w) = rg Z d rx_m60 65 [some (.ref a), l1, l2] (.ref a :: S) (rz_mk h ι, w) := rz_s1 fun _ => rfl
theorem g60_65 : rg Z d rx_m60 65 [l0, l1, some (.int x)] S (rz_mk h ι, w) = rg Z d rx_m60 66 [l0, l1, some (.int x)] (.int x :: S) (rz_mk h ι, w) := rz_s1 fun _ => rfl
theorem g60_66 (c : rz_oc h a 6) : rg Z d rx_m60 66 L (v1 :: .ref a :: []) (rz_mk h ι, w) = rz_k true (rz_f Z d 62 [.ref a, v1] (rz_mk h ι, w)) (fun v σ' => rg Z d rx_m60 69 L (v.toList ++ []) σ') := rz_cv (pc := 66) (n := 1) (mi := 62) (S := v1 :: .ref a :: []) (rest := []) rfl rfl (Nat.le_of_ble_eq_true rfl) (Nat.le_of_ble_eq_true rfl) c
theorem g60_69 : rg Z d rx_m60 69 L (.int x :: S) (rz_mk h ι, w) = if x = 0 then rg Z d rx_m60 76 L S (rz_mk h ι, w) else rg Z d rx_m60 72 L S (rz_mk h ι, w) := rz_if1 (pc := 69) (t := 76) (off := 7) (cc := .eq) (by decide) rfl
theorem g60_72 : rg Z d rx_m60 72 L S (rz_mk h ι, w) = rg Z d rx_m60 73 L (.int 1 :: S) (rz_mk h ι, w) := rz_s1 fun _ => rfl
theorem g60_73 : rg Z d rx_m60 73 L S (rz_mk h ι, w) = rg Z d rx_m60 77 L S (rz_mk h ι, w) := rz_s1 fun _ => rfl
theorem g60_76 : rg Z d rx_m60 76 L S (rz_mk h ι, w) = rg Z d rx_m60 77 L (.int 0 :: S) (rz_mk h ι, w) := rz_s1 fun _ => rfl
theorem g60_77 (c : narrow .boolean (.int x) = .int x) : rg Z d rx_m60 77 L [.int x] (rz_mk h ι, w) = some (.inl (some (.int x)), (rz_mk h ι, w)) := rz_reti rfl rfl c
theorem e60 : rz_f Z (d + 1) 60 [.ref t0, .int s1, .int s2] σ = rg Z d rx_m60 0 [some (.ref t0), some (.int s1), some (.int s2)] [] σ := rz_f_eq rfl (Nat.le_of_ble_eq_true rfl)
theorem g61_0 : rg Z d rx_m61 0 [l0, some (.int x)] S (rz_mk h ι, w) = rg Z d rx_m61 1 [l0, some (.int x)] (.int x :: S) (rz_mk h ι, w) := rz_s1 fun _ => rfl
theorem g61_1 : rg Z d rx_m61 1 L S (rz_mk h ι, w) = rg Z d rx_m61 3 L (.int 6 :: S) (rz_mk h ι, w) := rz_s1 fun _ => rfl
theorem g61_3 : rg Z d rx_m61 3 L (.int y :: .int x :: S) (rz_mk h ι, w) = if x < y then rg Z d rx_m61 17 L S (rz_mk h ι, w) else rg Z d rx_m61 6 L S (rz_mk h ι, w) := rz_if2 (pc := 3) (t := 17) (off := 14) (cc := .lt) (by decide) rfl
theorem g61_6 : rg Z d rx_m61 6 [some (.ref a), l1] S (rz_mk h ι, w) = rg Z d rx_m61 7 [some (.ref a), l1] (.ref a :: S) (rz_mk h ι, w) := rz_s1 fun _ => rfl
theorem g61_7 (c : rz_fR h a 6 0) : rg Z d rx_m61 7 L (.ref a :: S) (rz_mk h ι, w) = rg Z d rx_m61 10 L (rz_rv h a 0 :: S) (rz_mk h ι, w) := rz_gR rfl (by decide) c
theorem g61_10 : rg Z d rx_m61 10 L S (rz_mk h ι, w) = rg Z d rx_m61 11 L (.int 3 :: S) (rz_mk h ι, w) := rz_s1 fun _ => rfl
theorem g61_11 (c : rz_oc h a 9) : rg Z d rx_m61 11 L (v1 :: .ref a :: []) (rz_mk h ι, w) = rz_k true (rz_f Z d 92 [.ref a, v1] (rz_mk h ι, w)) (fun v σ' => rg Z d rx_m61 14 L (v.toList ++ []) σ') := rz_cv (pc := 11) (n := 1) (mi := 92) (S := v1 :: .ref a :: []) (rest := []) rfl rfl (Nat.le_of_ble_eq_true rfl) (Nat.le_of_ble_eq_true rfl) c
theorem g61_14 : rg Z d rx_m61 14 L (.int x :: S) (rz_mk h ι, w) = if x = 0 then rg Z d rx_m61 21 L S (rz_mk h ι, w) else rg Z d rx_m61 17 L S (rz_mk h ι, w) := rz_if1 (pc := 14) (t := 21) (off := 7) (cc := .eq) (by decide) rfl
theorem g61_17 : rg Z d rx_m61 17 L S (rz_mk h ι, w) = rg Z d rx_m61 18 L (.int 1 :: S) (rz_mk h ι, w) := rz_s1 fun _ => rfl
theorem g61_18 : rg Z d rx_m61 18 L S (rz_mk h ι, w) = rg Z d rx_m61 22 L S (rz_mk h ι, w) := rz_s1 fun _ => rfl
theorem g61_21 : rg Z d rx_m61 21 L S (rz_mk h ι, w) = rg Z d rx_m61 22 L (.int 0 :: S) (rz_mk h ι, w) := rz_s1 fun _ => rfl
theorem g61_22 (c : narrow .boolean (.int x) = .int x) : rg Z d rx_m61 22 L [.int x] (rz_mk h ι, w) = some (.inl (some (.int x)), (rz_mk h ι, w)) := rz_reti rfl rfl c
theorem e61 : rz_f Z (d + 1) 61 [.ref t0, .int s1] σ = rg Z d rx_m61 0 [some (.ref t0), some (.int s1)] [] σ := rz_f_eq rfl (Nat.le_of_ble_eq_true rfl)
theorem g62_0 : rg Z d rx_m62 0 [some (.ref a), l1] S (rz_mk h ι, w) = rg Z d rx_m62 1 [some (.ref a), l1] (.ref a :: S) (rz_mk h ι, w) := rz_s1 fun _ => rfl
theorem g62_1 (c : rz_fR h a 6 1) : rg Z d rx_m62 1 L (.ref a :: S) (rz_mk h ι, w) = rg Z d rx_m62 4 L (rz_rv h a 1 :: S) (rz_mk h ι, w) := rz_gR rfl (by decide) c
theorem g62_4 : rg Z d rx_m62 4 [l0, some (.int x)] S (rz_mk h ι, w) = rg Z d rx_m62 5 [l0, some (.int x)] (.int x :: S) (rz_mk h ι, w) := rz_s1 fun _ => rfl
theorem g62_5 (c : rz_oc h a 5) : rg Z d rx_m62 5 L (v1 :: .ref a :: []) (rz_mk h ι, w) = rz_k true (rz_f Z d 43 [.ref a, v1] (rz_mk h ι, w)) (fun v σ' => rg Z d rx_m62 8 L (v.toList ++ []) σ') := rz_cv (pc := 5) (n := 1) (mi := 43) (S := v1 :: .ref a :: []) (rest := []) rfl rfl (Nat.le_of_ble_eq_true rfl) (Nat.le_of_ble_eq_true rfl) c
theorem g62_8 : rg Z d rx_m62 8 L S (rz_mk h ι, w) = rg Z d rx_m62 9 L (.int 1 :: S) (rz_mk h ι, w) := rz_s1 fun _ => rfl
theorem g62_9 (c : narrow .boolean (.int x) = .int x) : rg Z d rx_m62 9 L [.int x] (rz_mk h ι, w) = some (.inl (some (.int x)), (rz_mk h ι, w)) := rz_reti rfl rfl c
theorem e62 : rz_f Z (d + 1) 62 [.ref t0, .int s1] σ = rg Z d rx_m62 0 [some (.ref t0), some (.int s1)] [] σ := rz_f_eq rfl (Nat.le_of_ble_eq_true rfl)
theorem g63_0 : rg Z d rx_m63 0 [some (.ref a)] S (rz_mk h ι, w) = rg Z d rx_m63 1 [some (.ref a)] (.ref a :: S) (rz_mk h ι, w) := rz_s1 fun _ => rfl
theorem g63_1 (c : rz_fR h a 6 0) : rg Z d rx_m63 1 L (.ref a :: S) (rz_mk h ι, w) = rg Z d rx_m63 4 L (rz_rv h a 0 :: S) (rz_mk h ι, w) := rz_gR rfl (by decide) c
theorem g63_4 : rg Z d rx_m63 4 L S (rz_mk h ι, w) = rg Z d rx_m63 6 L (.ref (Z.2.2.2 7) :: S) (rz_mk h ι, w) := rz_s1 fun _ => rfl
theorem g63_6 (c : rz_oc h a 9) : rg Z d rx_m63 6 L (v1 :: .ref a :: []) (rz_mk h ι, w) = rz_k true (rz_f Z d 101 [.ref a, v1] (rz_mk h ι, w)) (fun v σ' => rg Z d rx_m63 9 L (v.toList ++ []) σ') := rz_cv (pc := 6) (n := 1) (mi := 101) (S := v1 :: .ref a :: []) (rest := []) rfl rfl (Nat.le_of_ble_eq_true rfl) (Nat.le_of_ble_eq_true rfl) c
theorem g63_9 : rg Z d rx_m63 9 L (.int x :: S) (rz_mk h ι, w) = if x = 0 then rg Z d rx_m63 14 L S (rz_mk h ι, w) else rg Z d rx_m63 12 L S (rz_mk h ι, w) := rz_if1 (pc := 9) (t := 14) (off := 5) (cc := .eq) (by decide) rfl
theorem g63_12 : rg Z d rx_m63 12 L S (rz_mk h ι, w) = rg Z d rx_m63 13 L (.int 0 :: S) (rz_mk h ι, w) := rz_s1 fun _ => rfl
theorem g63_13 : rg Z d rx_m63 13 L [.int x] (rz_mk h ι, w) = some (.inl (some (.int x)), (rz_mk h ι, w)) := rz_reti rfl rfl rfl
theorem g63_14 : rg Z d rx_m63 14 [some (.ref a)] S (rz_mk h ι, w) = rg Z d rx_m63 15 [some (.ref a)] (.ref a :: S) (rz_mk h ι, w) := rz_s1 fun _ => rfl
theorem g63_15 (c : rz_fR h a 6 0) : rg Z d rx_m63 15 L (.ref a :: S) (rz_mk h ι, w) = rg Z d rx_m63 18 L (rz_rv h a 0 :: S) (rz_mk h ι, w) := rz_gR rfl (by decide) c
theorem g63_18 : rg Z d rx_m63 18 L S (rz_mk h ι, w) = rg Z d rx_m63 20 L (.ref (Z.2.2.2 8) :: S) (rz_mk h ι, w) := rz_s1 fun _ => rfl
theorem g63_20 (c : rz_oc h a 9) : rg Z d rx_m63 20 L (v1 :: .ref a :: []) (rz_mk h ι, w) = rz_k true (rz_f Z d 101 [.ref a, v1] (rz_mk h ι, w)) (fun v σ' => rg Z d rx_m63 23 L (v.toList ++ []) σ') := rz_cv (pc := 20) (n := 1) (mi := 101) (S := v1 :: .ref a :: []) (rest := []) rfl rfl (Nat.le_of_ble_eq_true rfl) (Nat.le_of_ble_eq_true rfl) c
theorem g63_23 : rg Z d rx_m63 23 L (.int x :: S) (rz_mk h ι, w) = if x = 0 then rg Z d rx_m63 28 L S (rz_mk h ι, w) else rg Z d rx_m63 26 L S (rz_mk h ι, w) := rz_if1 (pc := 23) (t := 28) (off := 5) (cc := .eq) (by decide) rfl
theorem g63_26 : rg Z d rx_m63 26 L S (rz_mk h ι, w) = rg Z d rx_m63 27 L (.int 1 :: S) (rz_mk h ι, w) := rz_s1 fun _ => rfl
theorem g63_27 : rg Z d rx_m63 27 L [.int x] (rz_mk h ι, w) = some (.inl (some (.int x)), (rz_mk h ι, w)) := rz_reti rfl rfl rfl
theorem g63_28 : rg Z d rx_m63 28 [some (.ref a)] S (rz_mk h ι, w) = rg Z d rx_m63 29 [some (.ref a)] (.ref a :: S) (rz_mk h ι, w) := rz_s1 fun _ => rfl
theorem g63_29 (c : rz_fR h a 6 0) : rg Z d rx_m63 29 L (.ref a :: S) (rz_mk h ι, w) = rg Z d rx_m63 32 L (rz_rv h a 0 :: S) (rz_mk h ι, w) := rz_gR rfl (by decide) c
theorem g63_32 : rg Z d rx_m63 32 L S (rz_mk h ι, w) = rg Z d rx_m63 34 L (.ref (Z.2.2.2 9) :: S) (rz_mk h ι, w) := rz_s1 fun _ => rfl
theorem g63_34 (c : rz_oc h a 9) : rg Z d rx_m63 34 L (v1 :: .ref a :: []) (rz_mk h ι, w) = rz_k true (rz_f Z d 101 [.ref a, v1] (rz_mk h ι, w)) (fun v σ' => rg Z d rx_m63 37 L (v.toList ++ []) σ') := rz_cv (pc := 34) (n := 1) (mi := 101) (S := v1 :: .ref a :: []) (rest := []) rfl rfl (Nat.le_of_ble_eq_true rfl) (Nat.le_of_ble_eq_true rfl) c
theorem g63_37 : rg Z d rx_m63 37 L (.int x :: S) (rz_mk h ι, w) = if x = 0 then rg Z d rx_m63 42 L S (rz_mk h ι, w) else rg Z d rx_m63 40 L S (rz_mk h ι, w) := rz_if1 (pc := 37) (t := 42) (off := 5) (cc := .eq) (by decide) rfl
theorem g63_40 : rg Z d rx_m63 40 L S (rz_mk h ι, w) = rg Z d rx_m63 41 L (.int 2 :: S) (rz_mk h ι, w) := rz_s1 fun _ => rfl
theorem g63_41 : rg Z d rx_m63 41 L [.int x] (rz_mk h ι, w) = some (.inl (some (.int x)), (rz_mk h ι, w)) := rz_reti rfl rfl rfl
theorem g63_42 : rg Z d rx_m63 42 [some (.ref a)] S (rz_mk h ι, w) = rg Z d rx_m63 43 [some (.ref a)] (.ref a :: S) (rz_mk h ι, w) := rz_s1 fun _ => rfl
theorem g63_43 (c : rz_fR h a 6 0) : rg Z d rx_m63 43 L (.ref a :: S) (rz_mk h ι, w) = rg Z d rx_m63 46 L (rz_rv h a 0 :: S) (rz_mk h ι, w) := rz_gR rfl (by decide) c
theorem g63_46 : rg Z d rx_m63 46 L S (rz_mk h ι, w) = rg Z d rx_m63 48 L (.ref (Z.2.2.2 10) :: S) (rz_mk h ι, w) := rz_s1 fun _ => rfl
theorem g63_48 (c : rz_oc h a 9) : rg Z d rx_m63 48 L (v1 :: .ref a :: []) (rz_mk h ι, w) = rz_k true (rz_f Z d 101 [.ref a, v1] (rz_mk h ι, w)) (fun v σ' => rg Z d rx_m63 51 L (v.toList ++ []) σ') := rz_cv (pc := 48) (n := 1) (mi := 101) (S := v1 :: .ref a :: []) (rest := []) rfl rfl (Nat.le_of_ble_eq_true rfl) (Nat.le_of_ble_eq_true rfl) c
theorem g63_51 : rg Z d rx_m63 51 L (.int x :: S) (rz_mk h ι, w) = if x = 0 then rg Z d rx_m63 56 L S (rz_mk h ι, w) else rg Z d rx_m63 54 L S (rz_mk h ι, w) := rz_if1 (pc := 51) (t := 56) (off := 5) (cc := .eq) (by decide) rfl
theorem g63_54 : rg Z d rx_m63 54 L S (rz_mk h ι, w) = rg Z d rx_m63 55 L (.int 3 :: S) (rz_mk h ι, w) := rz_s1 fun _ => rfl
theorem g63_55 : rg Z d rx_m63 55 L [.int x] (rz_mk h ι, w) = some (.inl (some (.int x)), (rz_mk h ι, w)) := rz_reti rfl rfl rfl
theorem g63_56 : rg Z d rx_m63 56 [some (.ref a)] S (rz_mk h ι, w) = rg Z d rx_m63 57 [some (.ref a)] (.ref a :: S) (rz_mk h ι, w) := rz_s1 fun _ => rfl
theorem g63_57 (c : rz_fR h a 6 0) : rg Z d rx_m63 57 L (.ref a :: S) (rz_mk h ι, w) = rg Z d rx_m63 60 L (rz_rv h a 0 :: S) (rz_mk h ι, w) := rz_gR rfl (by decide) c
theorem g63_60 : rg Z d rx_m63 60 L S (rz_mk h ι, w) = rg Z d rx_m63 62 L (.ref (Z.2.2.2 11) :: S) (rz_mk h ι, w) := rz_s1 fun _ => rfl
theorem g63_62 (c : rz_oc h a 9) : rg Z d rx_m63 62 L (v1 :: .ref a :: []) (rz_mk h ι, w) = rz_k true (rz_f Z d 101 [.ref a, v1] (rz_mk h ι, w)) (fun v σ' => rg Z d rx_m63 65 L (v.toList ++ []) σ') := rz_cv (pc := 62) (n := 1) (mi := 101) (S := v1 :: .ref a :: []) (rest := []) rfl rfl (Nat.le_of_ble_eq_true rfl) (Nat.le_of_ble_eq_true rfl) c
theorem g63_65 : rg Z d rx_m63 65 L (.int x :: S) (rz_mk h ι, w) = if x = 0 then rg Z d rx_m63 70 L S (rz_mk h ι, w) else rg Z d rx_m63 68 L S (rz_mk h ι, w) := rz_if1 (pc := 65) (t := 70) (off := 5) (cc := .eq) (by decide) rfl
theorem g63_68 : rg Z d rx_m63 68 L S (rz_mk h ι, w) = rg Z d rx_m63 69 L (.int 4 :: S) (rz_mk h ι, w) := rz_s1 fun _ => rfl
theorem g63_69 : rg Z d rx_m63 69 L [.int x] (rz_mk h ι, w) = some (.inl (some (.int x)), (rz_mk h ι, w)) := rz_reti rfl rfl rfl
theorem g63_70 : rg Z d rx_m63 70 [some (.ref a)] S (rz_mk h ι, w) = rg Z d rx_m63 71 [some (.ref a)] (.ref a :: S) (rz_mk h ι, w) := rz_s1 fun _ => rfl
theorem g63_71 (c : rz_fR h a 6 0) : rg Z d rx_m63 71 L (.ref a :: S) (rz_mk h ι, w) = rg Z d rx_m63 74 L (rz_rv h a 0 :: S) (rz_mk h ι, w) := rz_gR rfl (by decide) c
theorem g63_74 : rg Z d rx_m63 74 L S (rz_mk h ι, w) = rg Z d rx_m63 76 L (.ref (Z.2.2.2 12) :: S) (rz_mk h ι, w) := rz_s1 fun _ => rfl
theorem g63_76 (c : rz_oc h a 9) : rg Z d rx_m63 76 L (v1 :: .ref a :: []) (rz_mk h ι, w) = rz_k true (rz_f Z d 101 [.ref a, v1] (rz_mk h ι, w)) (fun v σ' => rg Z d rx_m63 79 L (v.toList ++ []) σ') := rz_cv (pc := 76) (n := 1) (mi := 101) (S := v1 :: .ref a :: []) (rest := []) rfl rfl (Nat.le_of_ble_eq_true rfl) (Nat.le_of_ble_eq_true rfl) c
theorem g63_79 : rg Z d rx_m63 79 L (.int x :: S) (rz_mk h ι, w) = if x = 0 then rg Z d rx_m63 84 L S (rz_mk h ι, w) else rg Z d rx_m63 82 L S (rz_mk h ι, w) := rz_if1 (pc := 79) (t := 84) (off := 5) (cc := .eq) (by decide) rfl
theorem g63_82 : rg Z d rx_m63 82 L S (rz_mk h ι, w) = rg Z d rx_m63 83 L (.int 5 :: S) (rz_mk h ι, w) := rz_s1 fun _ => rfl
theorem g63_83 : rg Z d rx_m63 83 L [.int x] (rz_mk h ι, w) = some (.inl (some (.int x)), (rz_mk h ι, w)) := rz_reti rfl rfl rfl
theorem g63_84 : rg Z d rx_m63 84 [some (.ref a)] S (rz_mk h ι, w) = rg Z d rx_m63 85 [some (.ref a)] (.ref a :: S) (rz_mk h ι, w) := rz_s1 fun _ => rfl
theorem g63_85 (c : rz_fR h a 6 0) : rg Z d rx_m63 85 L (.ref a :: S) (rz_mk h ι, w) = rg Z d rx_m63 88 L (rz_rv h a 0 :: S) (rz_mk h ι, w) := rz_gR rfl (by decide) c
theorem g63_88 : rg Z d rx_m63 88 L S (rz_mk h ι, w) = rg Z d rx_m63 90 L (.ref (Z.2.2.2 13) :: S) (rz_mk h ι, w) := rz_s1 fun _ => rfl
theorem g63_90 (c : rz_oc h a 9) : rg Z d rx_m63 90 L (v1 :: .ref a :: []) (rz_mk h ι, w) = rz_k true (rz_f Z d 101 [.ref a, v1] (rz_mk h ι, w)) (fun v σ' => rg Z d rx_m63 93 L (v.toList ++ []) σ') := rz_cv (pc := 90) (n := 1) (mi := 101) (S := v1 :: .ref a :: []) (rest := []) rfl rfl (Nat.le_of_ble_eq_true rfl) (Nat.le_of_ble_eq_true rfl) c
theorem g63_93 : rg Z d rx_m63 93 L (.int x :: S) (rz_mk h ι, w) = if x = 0 then rg Z d rx_m63 99 L S (rz_mk h ι, w) else rg Z d rx_m63 96 L S (rz_mk h ι, w) := rz_if1 (pc := 93) (t := 99) (off := 6) (cc := .eq) (by decide) rfl
theorem g63_96 : rg Z d rx_m63 96 L S (rz_mk h ι, w) = rg Z d rx_m63 98 L (.int 6 :: S) (rz_mk h ι, w) := rz_s1 fun _ => rfl
theorem g63_98 : rg Z d rx_m63 98 L [.int x] (rz_mk h ι, w) = some (.inl (some (.int x)), (rz_mk h ι, w)) := rz_reti rfl rfl rfl
theorem g63_99 : rg Z d rx_m63 99 [some (.ref a)] S (rz_mk h ι, w) = rg Z d rx_m63 100 [some (.ref a)] (.ref a :: S) (rz_mk h ι, w) := rz_s1 fun _ => rfl
theorem g63_100 (c : rz_fR h a 6 0) : rg Z d rx_m63 100 L (.ref a :: S) (rz_mk h ι, w) = rg Z d rx_m63 103 L (rz_rv h a 0 :: S) (rz_mk h ι, w) := rz_gR rfl (by decide) c
theorem g63_103 : rg Z d rx_m63 103 L S (rz_mk h ι, w) = rg Z d rx_m63 105 L (.ref (Z.2.2.2 14) :: S) (rz_mk h ι, w) := rz_s1 fun _ => rfl
theorem g63_105 (c : rz_oc h a 9) : rg Z d rx_m63 105 L (v1 :: .ref a :: []) (rz_mk h ι, w) = rz_k true (rz_f Z d 101 [.ref a, v1] (rz_mk h ι, w)) (fun v σ' => rg Z d rx_m63 108 L (v.toList ++ []) σ') := rz_cv (pc := 105) (n := 1) (mi := 101) (S := v1 :: .ref a :: []) (rest := []) rfl rfl (Nat.le_of_ble_eq_true rfl) (Nat.le_of_ble_eq_true rfl) c
theorem g63_108 : rg Z d rx_m63 108 L (.int x :: S) (rz_mk h ι, w) = if x = 0 then rg Z d rx_m63 116 L S (rz_mk h ι, w) else rg Z d rx_m63 111 L S (rz_mk h ι, w) := rz_if1 (pc := 108) (t := 116) (off := 8) (cc := .eq) (by decide) rfl
theorem g63_111 : rg Z d rx_m63 111 L S (rz_mk h ι, w) = rg Z d rx_m63 113 L (.int 7 :: S) (rz_mk h ι, w) := rz_s1 fun _ => rfl
theorem g63_113 : rg Z d rx_m63 113 L S (rz_mk h ι, w) = rg Z d rx_m63 117 L S (rz_mk h ι, w) := rz_s1 fun _ => rfl
theorem g63_116 : rg Z d rx_m63 116 L S (rz_mk h ι, w) = rg Z d rx_m63 117 L (.int (-1) :: S) (rz_mk h ι, w) := rz_s1 fun _ => rfl
theorem g63_117 : rg Z d rx_m63 117 L [.int x] (rz_mk h ι, w) = some (.inl (some (.int x)), (rz_mk h ι, w)) := rz_reti rfl rfl rfl
theorem e63 : rz_f Z (d + 1) 63 [.ref t0] σ = rg Z d rx_m63 0 [some (.ref t0)] [] σ := rz_f_eq rfl (Nat.le_of_ble_eq_true rfl)
theorem g64_0 : rg Z d rx_m64 0 [some (.ref a), l1, l2] S (rz_mk h ι, w) = rg Z d rx_m64 1 [some (.ref a), l1, l2] (.ref a :: S) (rz_mk h ι, w) := rz_s1 fun _ => rfl
theorem g64_0n : rg Z d rx_m64 0 [some .null, l1, l2] S (rz_mk h ι, w) = rg Z d rx_m64 1 [some .null, l1, l2] (.null :: S) (rz_mk h ι, w) := rz_s1 fun _ => rfl
theorem g64_1 : rg Z d rx_m64 1 L (.ref a :: []) (rz_mk h ι, w) = rg Z d rx_m64 4 L [] (rz_mk h ι, w) := rz_oi rfl (Nat.le_of_ble_eq_true rfl)
theorem g64_4 : rg Z d rx_m64 4 [some (.ref a), l1, l2] S (rz_mk h ι, w) = rg Z d rx_m64 5 [some (.ref a), l1, l2] (.ref a :: S) (rz_mk h ι, w) := rz_s1 fun _ => rfl
theorem g64_4n : rg Z d rx_m64 4 [some .null, l1, l2] S (rz_mk h ι, w) = rg Z d rx_m64 5 [some .null, l1, l2] (.null :: S) (rz_mk h ι, w) := rz_s1 fun _ => rfl
theorem g64_5 : rg Z d rx_m64 5 [l0, some (.ref a), l2] S (rz_mk h ι, w) = rg Z d rx_m64 6 [l0, some (.ref a), l2] (.ref a :: S) (rz_mk h ι, w) := rz_s1 fun _ => rfl
theorem g64_5n : rg Z d rx_m64 5 [l0, some .null, l2] S (rz_mk h ι, w) = rg Z d rx_m64 6 [l0, some .null, l2] (.null :: S) (rz_mk h ι, w) := rz_s1 fun _ => rfl
theorem g64_6 (c : rz_fR h a 7 0) (hv : rz_isr v = true) (hz : Z.2.1 ≤ a) : rg Z d rx_m64 6 L (v :: .ref a :: S) (rz_mk h ι, w) = rg Z d rx_m64 9 L S (rz_mk (rz_hs h a 0 v) ι, w) := rz_pR rfl c hv hz
theorem g64_9 : rg Z d rx_m64 9 [some (.ref a), l1, l2] S (rz_mk h ι, w) = rg Z d rx_m64 10 [some (.ref a), l1, l2] (.ref a :: S) (rz_mk h ι, w) := rz_s1 fun _ => rfl
theorem g64_9n : rg Z d rx_m64 9 [some .null, l1, l2] S (rz_mk h ι, w) = rg Z d rx_m64 10 [some .null, l1, l2] (.null :: S) (rz_mk h ι, w) := rz_s1 fun _ => rfl
theorem g64_10 : rg Z d rx_m64 10 [l0, l1, some (.ref a)] S (rz_mk h ι, w) = rg Z d rx_m64 11 [l0, l1, some (.ref a)] (.ref a :: S) (rz_mk h ι, w) := rz_s1 fun _ => rfl
theorem g64_10n : rg Z d rx_m64 10 [l0, l1, some .null] S (rz_mk h ι, w) = rg Z d rx_m64 11 [l0, l1, some .null] (.null :: S) (rz_mk h ι, w) := rz_s1 fun _ => rfl
theorem g64_11 (c : rz_fR h a 7 1) (hv : rz_isr v = true) (hz : Z.2.1 ≤ a) : rg Z d rx_m64 11 L (v :: .ref a :: S) (rz_mk h ι, w) = rg Z d rx_m64 14 L S (rz_mk (rz_hs h a 1 v) ι, w) := rz_pR rfl c hv hz
theorem g64_14 : rg Z d rx_m64 14 [some (.ref a), l1, l2] S (rz_mk h ι, w) = rg Z d rx_m64 15 [some (.ref a), l1, l2] (.ref a :: S) (rz_mk h ι, w) := rz_s1 fun _ => rfl
theorem g64_14n : rg Z d rx_m64 14 [some .null, l1, l2] S (rz_mk h ι, w) = rg Z d rx_m64 15 [some .null, l1, l2] (.null :: S) (rz_mk h ι, w) := rz_s1 fun _ => rfl
theorem g64_15 : rg Z d rx_m64 15 [l0, l1, some (.ref a)] S (rz_mk h ι, w) = rg Z d rx_m64 16 [l0, l1, some (.ref a)] (.ref a :: S) (rz_mk h ι, w) := rz_s1 fun _ => rfl
theorem g64_15n : rg Z d rx_m64 15 [l0, l1, some .null] S (rz_mk h ι, w) = rg Z d rx_m64 16 [l0, l1, some .null] (.null :: S) (rz_mk h ι, w) := rz_s1 fun _ => rfl
theorem g64_16n : rg Z d rx_m64 16 L (.null :: S) (rz_mk h ι, w) = rg Z d rx_m64 19 L S (rz_mk h ι, w) := rz_s1 fun _ => rfl
theorem g64_16 : rg Z d rx_m64 16 L (.ref a :: S) (rz_mk h ι, w) = rg Z d rx_m64 23 L S (rz_mk h ι, w) := rz_s1 fun _ => rfl
theorem g64_19 : rg Z d rx_m64 19 L S (rz_mk h ι, w) = rg Z d rx_m64 20 L (.int 1 :: S) (rz_mk h ι, w) := rz_s1 fun _ => rfl
theorem g64_20 : rg Z d rx_m64 20 L S (rz_mk h ι, w) = rg Z d rx_m64 29 L S (rz_mk h ι, w) := rz_s1 fun _ => rfl
theorem g64_23 : rg Z d rx_m64 23 [l0, l1, some (.ref a)] S (rz_mk h ι, w) = rg Z d rx_m64 24 [l0, l1, some (.ref a)] (.ref a :: S) (rz_mk h ι, w) := rz_s1 fun _ => rfl
theorem g64_23n : rg Z d rx_m64 23 [l0, l1, some .null] S (rz_mk h ι, w) = rg Z d rx_m64 24 [l0, l1, some .null] (.null :: S) (rz_mk h ι, w) := rz_s1 fun _ => rfl
theorem g64_24 (c : rz_fI h a 7 2) : rg Z d rx_m64 24 L (.ref a :: S) (rz_mk h ι, w) = rg Z d rx_m64 27 L (.int (ι a 2) :: S) (rz_mk h ι, w) := rz_gI rfl (by decide) c
theorem g64_27 : rg Z d rx_m64 27 L S (rz_mk h ι, w) = rg Z d rx_m64 28 L (.int 1 :: S) (rz_mk h ι, w) := rz_s1 fun _ => rfl
theorem g64_28 : rg Z d rx_m64 28 L (.int y :: .int x :: S) (rz_mk h ι, w) = rg Z d rx_m64 29 L (.int (x + y) :: S) (rz_mk h ι, w) := rz_s1 fun _ => rfl
theorem g64_29 (c : rz_fI h a 7 2) (hz : Z.2.1 ≤ a) : rg Z d rx_m64 29 L (.int x :: .ref a :: S) (rz_mk h ι, w) = rg Z d rx_m64 32 L S (rz_mk h (rz_up ι a 2 x), w) := rz_pI rfl c hz
theorem g64_32 : rg Z d rx_m64 32 L [] (rz_mk h ι, w) = some (.inl none, (rz_mk h ι, w)) := rz_r1 fun _ => rfl
theorem e64 : rz_f Z (d + 1) 64 [.ref t0, .ref t1, .ref t2] σ = rg Z d rx_m64 0 [some (.ref t0), some (.ref t1), some (.ref t2)] [] σ := rz_f_eq rfl (Nat.le_of_ble_eq_true rfl)
theorem e64n : rz_f Z (d + 1) 64 [.ref t0, .ref t1, .null] σ = rg Z d rx_m64 0 [some (.ref t0), some (.ref t1), some .null] [] σ := rz_f_eq rfl (Nat.le_of_ble_eq_true rfl)
theorem g65_0 : rg Z d rx_m65 0 [some (.ref a)] S (rz_mk h ι, w) = rg Z d rx_m65 1 [some (.ref a)] (.ref a :: S) (rz_mk h ι, w) := rz_s1 fun _ => rfl
theorem g65_1 : rg Z d rx_m65 1 L (.ref a :: []) (rz_mk h ι, w) = rg Z d rx_m65 4 L [] (rz_mk h ι, w) := rz_oi rfl (Nat.le_of_ble_eq_true rfl)
theorem g65_4 : rg Z d rx_m65 4 [some (.ref a)] S (rz_mk h ι, w) = rg Z d rx_m65 5 [some (.ref a)] (.ref a :: S) (rz_mk h ι, w) := rz_s1 fun _ => rfl
theorem g65_5 : rg Z d rx_m65 5 L S (rz_mk h ι, w) = rg Z d rx_m65 7 L (.int 24 :: S) (rz_mk h ι, w) := rz_s1 fun _ => rfl
theorem g65_7 : rg Z d rx_m65 7 L (.int 24 :: S) (rz_mk h ι, w) = rg Z d rx_m65 9 L (.ref w.1 :: S) (rz_mk (rx_up h w.1 (.inl (0, 24, fun _ => .int 0))) (rz_z ι w.1), w.1 + 1, w.2 + 24) := rz_nwa rfl (by decide) (by decide)
theorem g65_9 (c : rz_fR h a 8 0) (hv : rz_isr v = true) (hz : Z.2.1 ≤ a) : rg Z d rx_m65 9 L (v :: .ref a :: S) (rz_mk h ι, w) = rg Z d rx_m65 12 L S (rz_mk (rz_hs h a 0 v) ι, w) := rz_pR rfl c hv hz
theorem g65_12 : rg Z d rx_m65 12 [some (.ref a)] S (rz_mk h ι, w) = rg Z d rx_m65 13 [some (.ref a)] (.ref a :: S) (rz_mk h ι, w) := rz_s1 fun _ => rfl
theorem g65_13 : rg Z d rx_m65 13 L S (rz_mk h ι, w) = rg Z d rx_m65 15 L (.int 24 :: S) (rz_mk h ι, w) := rz_s1 fun _ => rfl
theorem g65_15 : rg Z d rx_m65 15 L (.int 24 :: S) (rz_mk h ι, w) = rg Z d rx_m65 17 L (.ref w.1 :: S) (rz_mk (rx_up h w.1 (.inl (0, 24, fun _ => .int 0))) (rz_z ι w.1), w.1 + 1, w.2 + 24) := rz_nwa rfl (by decide) (by decide)
theorem g65_17 (c : rz_fR h a 8 1) (hv : rz_isr v = true) (hz : Z.2.1 ≤ a) : rg Z d rx_m65 17 L (v :: .ref a :: S) (rz_mk h ι, w) = rg Z d rx_m65 20 L S (rz_mk (rz_hs h a 1 v) ι, w) := rz_pR rfl c hv hz
theorem g65_20 : rg Z d rx_m65 20 [some (.ref a)] S (rz_mk h ι, w) = rg Z d rx_m65 21 [some (.ref a)] (.ref a :: S) (rz_mk h ι, w) := rz_s1 fun _ => rfl
theorem g65_21 : rg Z d rx_m65 21 L S (rz_mk h ι, w) = rg Z d rx_m65 23 L (.int 8 :: S) (rz_mk h ι, w) := rz_s1 fun _ => rfl
theorem g65_23 : rg Z d rx_m65 23 L (.int 8 :: S) (rz_mk h ι, w) = rg Z d rx_m65 25 L (.ref w.1 :: S) (rz_mk (rx_up h w.1 (.inl (0, 8, fun _ => .int 0))) (rz_z ι w.1), w.1 + 1, w.2 + 8) := rz_nwa rfl (by decide) (by decide)
theorem g65_25 (c : rz_fR h a 8 2) (hv : rz_isr v = true) (hz : Z.2.1 ≤ a) : rg Z d rx_m65 25 L (v :: .ref a :: S) (rz_mk h ι, w) = rg Z d rx_m65 28 L S (rz_mk (rz_hs h a 2 v) ι, w) := rz_pR rfl c hv hz
theorem g65_28 : rg Z d rx_m65 28 [some (.ref a)] S (rz_mk h ι, w) = rg Z d rx_m65 29 [some (.ref a)] (.ref a :: S) (rz_mk h ι, w) := rz_s1 fun _ => rfl
theorem g65_29 : rg Z d rx_m65 29 L S (rz_mk h ι, w) = rg Z d rx_m65 30 L (.int 0 :: S) (rz_mk h ι, w) := rz_s1 fun _ => rfl
theorem g65_30 (c : rz_fI h a 8 3) (hz : Z.2.1 ≤ a) : rg Z d rx_m65 30 L (.int x :: .ref a :: S) (rz_mk h ι, w) = rg Z d rx_m65 33 L S (rz_mk h (rz_up ι a 3 x), w) := rz_pI rfl c hz
theorem g65_33 : rg Z d rx_m65 33 [some (.ref a)] S (rz_mk h ι, w) = rg Z d rx_m65 34 [some (.ref a)] (.ref a :: S) (rz_mk h ι, w) := rz_s1 fun _ => rfl
theorem g65_34 : rg Z d rx_m65 34 L S (rz_mk h ι, w) = rg Z d rx_m65 35 L (.int 0 :: S) (rz_mk h ι, w) := rz_s1 fun _ => rfl
theorem g65_35 (c : rz_fI h a 8 4) (hz : Z.2.1 ≤ a) : rg Z d rx_m65 35 L (.int x :: .ref a :: S) (rz_mk h ι, w) = rg Z d rx_m65 38 L S (rz_mk h (rz_up ι a 4 x), w) := rz_pI rfl c hz
theorem g65_38 : rg Z d rx_m65 38 [some (.ref a)] S (rz_mk h ι, w) = rg Z d rx_m65 39 [some (.ref a)] (.ref a :: S) (rz_mk h ι, w) := rz_s1 fun _ => rfl
theorem g65_39 : rg Z d rx_m65 39 L S (rz_mk h ι, w) = rg Z d rx_m65 40 L (.int (-1) :: S) (rz_mk h ι, w) := rz_s1 fun _ => rfl
theorem g65_40 (c : rz_fI h a 8 5) (hz : Z.2.1 ≤ a) : rg Z d rx_m65 40 L (.int x :: .ref a :: S) (rz_mk h ι, w) = rg Z d rx_m65 43 L S (rz_mk h (rz_up ι a 5 x), w) := rz_pI rfl c hz
theorem g65_43 : rg Z d rx_m65 43 [some (.ref a)] S (rz_mk h ι, w) = rg Z d rx_m65 44 [some (.ref a)] (.ref a :: S) (rz_mk h ι, w) := rz_s1 fun _ => rfl
theorem g65_44 : rg Z d rx_m65 44 L S (rz_mk h ι, w) = rg Z d rx_m65 45 L (.int 0 :: S) (rz_mk h ι, w) := rz_s1 fun _ => rfl
theorem g65_45 (c : rz_fI h a 8 6) (hz : Z.2.1 ≤ a) : rg Z d rx_m65 45 L (.int x :: .ref a :: S) (rz_mk h ι, w) = rg Z d rx_m65 48 L S (rz_mk h (rz_up ι a 6 x), w) := rz_pI rfl c hz
theorem g65_48 : rg Z d rx_m65 48 [some (.ref a)] S (rz_mk h ι, w) = rg Z d rx_m65 49 [some (.ref a)] (.ref a :: S) (rz_mk h ι, w) := rz_s1 fun _ => rfl
theorem g65_49 : rg Z d rx_m65 49 L S (rz_mk h ι, w) = rg Z d rx_m65 50 L (.int 0 :: S) (rz_mk h ι, w) := rz_s1 fun _ => rfl
theorem g65_50 (c : rz_fI h a 8 7) (hz : Z.2.1 ≤ a) : rg Z d rx_m65 50 L (.int x :: .ref a :: S) (rz_mk h ι, w) = rg Z d rx_m65 53 L S (rz_mk h (rz_up ι a 7 x), w) := rz_pI rfl c hz
theorem g65_53 : rg Z d rx_m65 53 [some (.ref a)] S (rz_mk h ι, w) = rg Z d rx_m65 54 [some (.ref a)] (.ref a :: S) (rz_mk h ι, w) := rz_s1 fun _ => rfl
theorem g65_54 : rg Z d rx_m65 54 L S (rz_mk h ι, w) = rg Z d rx_m65 55 L (.int 0 :: S) (rz_mk h ι, w) := rz_s1 fun _ => rfl
theorem g65_55 (c : rz_fI h a 8 8) (hz : Z.2.1 ≤ a) : rg Z d rx_m65 55 L (.int x :: .ref a :: S) (rz_mk h ι, w) = rg Z d rx_m65 58 L S (rz_mk h (rz_up ι a 8 x), w) := rz_pI rfl c hz
theorem g65_58 : rg Z d rx_m65 58 L [] (rz_mk h ι, w) = some (.inl none, (rz_mk h ι, w)) := rz_r1 fun _ => rfl
theorem e65 : rz_f Z (d + 1) 65 [.ref t0] σ = rg Z d rx_m65 0 [some (.ref t0)] [] σ := rz_f_eq rfl (Nat.le_of_ble_eq_true rfl)
theorem g66_0 : rg Z d rx_m66 0 [l0, some (.ref a)] S (rz_mk h ι, w) = rg Z d rx_m66 1 [l0, some (.ref a)] (.ref a :: S) (rz_mk h ι, w) := rz_s1 fun _ => rfl
theorem g66_1 (c : rz_fR h a 8 0) : rg Z d rx_m66 1 L (.ref a :: S) (rz_mk h ι, w) = rg Z d rx_m66 4 L (rz_rv h a 0 :: S) (rz_mk h ι, w) := rz_gR rfl (by decide) c
theorem g66_4 : rg Z d rx_m66 4 L S (rz_mk h ι, w) = rg Z d rx_m66 5 L (.int 0 :: S) (rz_mk h ι, w) := rz_s1 fun _ => rfl
theorem g66_5 : rg Z d rx_m66 5 [some (.ref a), l1] S (rz_mk h ι, w) = rg Z d rx_m66 6 [some (.ref a), l1] (.ref a :: S) (rz_mk h ι, w) := rz_s1 fun _ => rfl
theorem g66_6 (c : rz_fR h a 8 0) : rg Z d rx_m66 6 L (.ref a :: S) (rz_mk h ι, w) = rg Z d rx_m66 9 L (rz_rv h a 0 :: S) (rz_mk h ι, w) := rz_gR rfl (by decide) c
theorem g66_9 : rg Z d rx_m66 9 L S (rz_mk h ι, w) = rg Z d rx_m66 10 L (.int 0 :: S) (rz_mk h ι, w) := rz_s1 fun _ => rfl
theorem g66_10 : rg Z d rx_m66 10 [some (.ref a), l1] S (rz_mk h ι, w) = rg Z d rx_m66 11 [some (.ref a), l1] (.ref a :: S) (rz_mk h ι, w) := rz_s1 fun _ => rfl
theorem g66_11 (c : rz_fR h a 8 0) : rg Z d rx_m66 11 L (.ref a :: S) (rz_mk h ι, w) = rg Z d rx_m66 14 L (rz_rv h a 0 :: S) (rz_mk h ι, w) := rz_gR rfl (by decide) c
theorem g66_14 (c : rz_ar h a 0) : rg Z d rx_m66 14 L (.ref a :: S) (rz_mk h ι, w) = rg Z d rx_m66 15 L (.int (Int32.ofNat (rz_ln h a)) :: S) (rz_mk h ι, w) := rz_alen (by decide) rfl c
theorem g66_15 (ha : rz_ar h a 0) (hb : rz_ar h b 0) (hz : Z.2.1 ≤ b) (h1 : ¬ z < 0) (h2 : ¬ y < 0) (h3 : ¬ x < 0) (h4 : z.toNatClampNeg + x.toNatClampNeg ≤ rz_ln h a) (h5 : y.toNatClampNeg + x.toNatClampNeg ≤ rz_ln h b) : rg Z d rx_m66 15 L (.int x :: .int y :: .ref b :: .int z :: .ref a :: []) (rz_mk h ι, w) = rg Z d rx_m66 18 L [] (rz_mk h (rz_cp ι a b z.toNatClampNeg y.toNatClampNeg x.toNatClampNeg), w) := rz_acp rfl (Nat.le_of_ble_eq_true rfl) ha hb hz h1 h2 h3 h4 h5
theorem g66_18 : rg Z d rx_m66 18 [l0, some (.ref a)] S (rz_mk h ι, w) = rg Z d rx_m66 19 [l0, some (.ref a)] (.ref a :: S) (rz_mk h ι, w) := rz_s1 fun _ => rfl
theorem g66_19 (c : rz_fR h a 8 1) : rg Z d rx_m66 19 L (.ref a :: S) (rz_mk h ι, w) = rg Z d rx_m66 22 L (rz_rv h a 1 :: S) (rz_mk h ι, w) := rz_gR rfl (by decide) c
theorem g66_22 : rg Z d rx_m66 22 L S (rz_mk h ι, w) = rg Z d rx_m66 23 L (.int 0 :: S) (rz_mk h ι, w) := rz_s1 fun _ => rfl
theorem g66_23 : rg Z d rx_m66 23 [some (.ref a), l1] S (rz_mk h ι, w) = rg Z d rx_m66 24 [some (.ref a), l1] (.ref a :: S) (rz_mk h ι, w) := rz_s1 fun _ => rfl
theorem g66_24 (c : rz_fR h a 8 1) : rg Z d rx_m66 24 L (.ref a :: S) (rz_mk h ι, w) = rg Z d rx_m66 27 L (rz_rv h a 1 :: S) (rz_mk h ι, w) := rz_gR rfl (by decide) c
theorem g66_27 : rg Z d rx_m66 27 L S (rz_mk h ι, w) = rg Z d rx_m66 28 L (.int 0 :: S) (rz_mk h ι, w) := rz_s1 fun _ => rfl
theorem g66_28 : rg Z d rx_m66 28 [some (.ref a), l1] S (rz_mk h ι, w) = rg Z d rx_m66 29 [some (.ref a), l1] (.ref a :: S) (rz_mk h ι, w) := rz_s1 fun _ => rfl
theorem g66_29 (c : rz_fR h a 8 1) : rg Z d rx_m66 29 L (.ref a :: S) (rz_mk h ι, w) = rg Z d rx_m66 32 L (rz_rv h a 1 :: S) (rz_mk h ι, w) := rz_gR rfl (by decide) c
theorem g66_32 (c : rz_ar h a 0) : rg Z d rx_m66 32 L (.ref a :: S) (rz_mk h ι, w) = rg Z d rx_m66 33 L (.int (Int32.ofNat (rz_ln h a)) :: S) (rz_mk h ι, w) := rz_alen (by decide) rfl c
theorem g66_33 (ha : rz_ar h a 0) (hb : rz_ar h b 0) (hz : Z.2.1 ≤ b) (h1 : ¬ z < 0) (h2 : ¬ y < 0) (h3 : ¬ x < 0) (h4 : z.toNatClampNeg + x.toNatClampNeg ≤ rz_ln h a) (h5 : y.toNatClampNeg + x.toNatClampNeg ≤ rz_ln h b) : rg Z d rx_m66 33 L (.int x :: .int y :: .ref b :: .int z :: .ref a :: []) (rz_mk h ι, w) = rg Z d rx_m66 36 L [] (rz_mk h (rz_cp ι a b z.toNatClampNeg y.toNatClampNeg x.toNatClampNeg), w) := rz_acp rfl (Nat.le_of_ble_eq_true rfl) ha hb hz h1 h2 h3 h4 h5
theorem g66_36 : rg Z d rx_m66 36 [l0, some (.ref a)] S (rz_mk h ι, w) = rg Z d rx_m66 37 [l0, some (.ref a)] (.ref a :: S) (rz_mk h ι, w) := rz_s1 fun _ => rfl
theorem g66_37 (c : rz_fR h a 8 2) : rg Z d rx_m66 37 L (.ref a :: S) (rz_mk h ι, w) = rg Z d rx_m66 40 L (rz_rv h a 2 :: S) (rz_mk h ι, w) := rz_gR rfl (by decide) c
theorem g66_40 : rg Z d rx_m66 40 L S (rz_mk h ι, w) = rg Z d rx_m66 41 L (.int 0 :: S) (rz_mk h ι, w) := rz_s1 fun _ => rfl
theorem g66_41 : rg Z d rx_m66 41 [some (.ref a), l1] S (rz_mk h ι, w) = rg Z d rx_m66 42 [some (.ref a), l1] (.ref a :: S) (rz_mk h ι, w) := rz_s1 fun _ => rfl
theorem g66_42 (c : rz_fR h a 8 2) : rg Z d rx_m66 42 L (.ref a :: S) (rz_mk h ι, w) = rg Z d rx_m66 45 L (rz_rv h a 2 :: S) (rz_mk h ι, w) := rz_gR rfl (by decide) c
theorem g66_45 : rg Z d rx_m66 45 L S (rz_mk h ι, w) = rg Z d rx_m66 46 L (.int 0 :: S) (rz_mk h ι, w) := rz_s1 fun _ => rfl
theorem g66_46 : rg Z d rx_m66 46 [some (.ref a), l1] S (rz_mk h ι, w) = rg Z d rx_m66 47 [some (.ref a), l1] (.ref a :: S) (rz_mk h ι, w) := rz_s1 fun _ => rfl
theorem g66_47 (c : rz_fR h a 8 2) : rg Z d rx_m66 47 L (.ref a :: S) (rz_mk h ι, w) = rg Z d rx_m66 50 L (rz_rv h a 2 :: S) (rz_mk h ι, w) := rz_gR rfl (by decide) c
theorem g66_50 (c : rz_ar h a 0) : rg Z d rx_m66 50 L (.ref a :: S) (rz_mk h ι, w) = rg Z d rx_m66 51 L (.int (Int32.ofNat (rz_ln h a)) :: S) (rz_mk h ι, w) := rz_alen (by decide) rfl c
theorem g66_51 (ha : rz_ar h a 0) (hb : rz_ar h b 0) (hz : Z.2.1 ≤ b) (h1 : ¬ z < 0) (h2 : ¬ y < 0) (h3 : ¬ x < 0) (h4 : z.toNatClampNeg + x.toNatClampNeg ≤ rz_ln h a) (h5 : y.toNatClampNeg + x.toNatClampNeg ≤ rz_ln h b) : rg Z d rx_m66 51 L (.int x :: .int y :: .ref b :: .int z :: .ref a :: []) (rz_mk h ι, w) = rg Z d rx_m66 54 L [] (rz_mk h (rz_cp ι a b z.toNatClampNeg y.toNatClampNeg x.toNatClampNeg), w) := rz_acp rfl (Nat.le_of_ble_eq_true rfl) ha hb hz h1 h2 h3 h4 h5
theorem g66_54 : rg Z d rx_m66 54 [some (.ref a), l1] S (rz_mk h ι, w) = rg Z d rx_m66 55 [some (.ref a), l1] (.ref a :: S) (rz_mk h ι, w) := rz_s1 fun _ => rfl
theorem g66_55 : rg Z d rx_m66 55 [l0, some (.ref a)] S (rz_mk h ι, w) = rg Z d rx_m66 56 [l0, some (.ref a)] (.ref a :: S) (rz_mk h ι, w) := rz_s1 fun _ => rfl
theorem g66_56 (c : rz_fI h a 8 3) : rg Z d rx_m66 56 L (.ref a :: S) (rz_mk h ι, w) = rg Z d rx_m66 59 L (.int (ι a 3) :: S) (rz_mk h ι, w) := rz_gI rfl (by decide) c
theorem g66_59 (c : rz_fI h a 8 3) (hz : Z.2.1 ≤ a) : rg Z d rx_m66 59 L (.int x :: .ref a :: S) (rz_mk h ι, w) = rg Z d rx_m66 62 L S (rz_mk h (rz_up ι a 3 x), w) := rz_pI rfl c hz
theorem g66_62 : rg Z d rx_m66 62 [some (.ref a), l1] S (rz_mk h ι, w) = rg Z d rx_m66 63 [some (.ref a), l1] (.ref a :: S) (rz_mk h ι, w) := rz_s1 fun _ => rfl
theorem g66_63 : rg Z d rx_m66 63 [l0, some (.ref a)] S (rz_mk h ι, w) = rg Z d rx_m66 64 [l0, some (.ref a)] (.ref a :: S) (rz_mk h ι, w) := rz_s1 fun _ => rfl
theorem g66_64 (c : rz_fI h a 8 4) : rg Z d rx_m66 64 L (.ref a :: S) (rz_mk h ι, w) = rg Z d rx_m66 67 L (.int (ι a 4) :: S) (rz_mk h ι, w) := rz_gI rfl (by decide) c
theorem g66_67 (c : rz_fI h a 8 4) (hz : Z.2.1 ≤ a) : rg Z d rx_m66 67 L (.int x :: .ref a :: S) (rz_mk h ι, w) = rg Z d rx_m66 70 L S (rz_mk h (rz_up ι a 4 x), w) := rz_pI rfl c hz
theorem g66_70 : rg Z d rx_m66 70 [some (.ref a), l1] S (rz_mk h ι, w) = rg Z d rx_m66 71 [some (.ref a), l1] (.ref a :: S) (rz_mk h ι, w) := rz_s1 fun _ => rfl
theorem g66_71 : rg Z d rx_m66 71 [l0, some (.ref a)] S (rz_mk h ι, w) = rg Z d rx_m66 72 [l0, some (.ref a)] (.ref a :: S) (rz_mk h ι, w) := rz_s1 fun _ => rfl
theorem g66_72 (c : rz_fI h a 8 5) : rg Z d rx_m66 72 L (.ref a :: S) (rz_mk h ι, w) = rg Z d rx_m66 75 L (.int (ι a 5) :: S) (rz_mk h ι, w) := rz_gI rfl (by decide) c
theorem g66_75 (c : rz_fI h a 8 5) (hz : Z.2.1 ≤ a) : rg Z d rx_m66 75 L (.int x :: .ref a :: S) (rz_mk h ι, w) = rg Z d rx_m66 78 L S (rz_mk h (rz_up ι a 5 x), w) := rz_pI rfl c hz
theorem g66_78 : rg Z d rx_m66 78 [some (.ref a), l1] S (rz_mk h ι, w) = rg Z d rx_m66 79 [some (.ref a), l1] (.ref a :: S) (rz_mk h ι, w) := rz_s1 fun _ => rfl
theorem g66_79 : rg Z d rx_m66 79 [l0, some (.ref a)] S (rz_mk h ι, w) = rg Z d rx_m66 80 [l0, some (.ref a)] (.ref a :: S) (rz_mk h ι, w) := rz_s1 fun _ => rfl
theorem g66_80 (c : rz_fI h a 8 6) : rg Z d rx_m66 80 L (.ref a :: S) (rz_mk h ι, w) = rg Z d rx_m66 83 L (.int (ι a 6) :: S) (rz_mk h ι, w) := rz_gI rfl (by decide) c
theorem g66_83 (c : rz_fI h a 8 6) (hz : Z.2.1 ≤ a) : rg Z d rx_m66 83 L (.int x :: .ref a :: S) (rz_mk h ι, w) = rg Z d rx_m66 86 L S (rz_mk h (rz_up ι a 6 x), w) := rz_pI rfl c hz
theorem g66_86 : rg Z d rx_m66 86 [some (.ref a), l1] S (rz_mk h ι, w) = rg Z d rx_m66 87 [some (.ref a), l1] (.ref a :: S) (rz_mk h ι, w) := rz_s1 fun _ => rfl
theorem g66_87 : rg Z d rx_m66 87 [l0, some (.ref a)] S (rz_mk h ι, w) = rg Z d rx_m66 88 [l0, some (.ref a)] (.ref a :: S) (rz_mk h ι, w) := rz_s1 fun _ => rfl
theorem g66_88 (c : rz_fI h a 8 7) : rg Z d rx_m66 88 L (.ref a :: S) (rz_mk h ι, w) = rg Z d rx_m66 91 L (.int (ι a 7) :: S) (rz_mk h ι, w) := rz_gI rfl (by decide) c
theorem g66_91 (c : rz_fI h a 8 7) (hz : Z.2.1 ≤ a) : rg Z d rx_m66 91 L (.int x :: .ref a :: S) (rz_mk h ι, w) = rg Z d rx_m66 94 L S (rz_mk h (rz_up ι a 7 x), w) := rz_pI rfl c hz
theorem g66_94 : rg Z d rx_m66 94 [some (.ref a), l1] S (rz_mk h ι, w) = rg Z d rx_m66 95 [some (.ref a), l1] (.ref a :: S) (rz_mk h ι, w) := rz_s1 fun _ => rfl
theorem g66_95 : rg Z d rx_m66 95 [l0, some (.ref a)] S (rz_mk h ι, w) = rg Z d rx_m66 96 [l0, some (.ref a)] (.ref a :: S) (rz_mk h ι, w) := rz_s1 fun _ => rfl
theorem g66_96 (c : rz_fI h a 8 8) : rg Z d rx_m66 96 L (.ref a :: S) (rz_mk h ι, w) = rg Z d rx_m66 99 L (.int (ι a 8) :: S) (rz_mk h ι, w) := rz_gI rfl (by decide) c
theorem g66_99 (c : rz_fI h a 8 8) (hz : Z.2.1 ≤ a) : rg Z d rx_m66 99 L (.int x :: .ref a :: S) (rz_mk h ι, w) = rg Z d rx_m66 102 L S (rz_mk h (rz_up ι a 8 x), w) := rz_pI rfl c hz
theorem g66_102 : rg Z d rx_m66 102 L [] (rz_mk h ι, w) = some (.inl none, (rz_mk h ι, w)) := rz_r1 fun _ => rfl
theorem e66 : rz_f Z (d + 1) 66 [.ref t0, .ref t1] σ = rg Z d rx_m66 0 [some (.ref t0), some (.ref t1)] [] σ := rz_f_eq rfl (Nat.le_of_ble_eq_true rfl)
theorem g67_0 : rg Z d rx_m67 0 [l0, some (.int x)] S (rz_mk h ι, w) = rg Z d rx_m67 1 [l0, some (.int x)] (.int x :: S) (rz_mk h ι, w) := rz_s1 fun _ => rfl
theorem g67_1 : rg Z d rx_m67 1 L (.int x :: S) (rz_mk h ι, w) = if x < 0 then rg Z d rx_m67 22 L S (rz_mk h ι, w) else rg Z d rx_m67 4 L S (rz_mk h ι, w) := rz_if1 (pc := 1) (t := 22) (off := 21) (cc := .lt) (by decide) rfl
theorem g67_4 : rg Z d rx_m67 4 [l0, some (.int x)] S (rz_mk h ι, w) = rg Z d rx_m67 5 [l0, some (.int x)] (.int x :: S) (rz_mk h ι, w) := rz_s1 fun _ => rfl
theorem g67_5 : rg Z d rx_m67 5 [some (.ref a), l1] S (rz_mk h ι, w) = rg Z d rx_m67 6 [some (.ref a), l1] (.ref a :: S) (rz_mk h ι, w) := rz_s1 fun _ => rfl
theorem g67_6 (c : rz_fI h a 8 3) : rg Z d rx_m67 6 L (.ref a :: S) (rz_mk h ι, w) = rg Z d rx_m67 9 L (.int (ι a 3) :: S) (rz_mk h ι, w) := rz_gI rfl (by decide) c
theorem g67_9 : rg Z d rx_m67 9 L (.int y :: .int x :: S) (rz_mk h ι, w) = if x < y then rg Z d rx_m67 12 L S (rz_mk h ι, w) else rg Z d rx_m67 22 L S (rz_mk h ι, w) := rz_if2 (pc := 9) (t := 22) (off := 13) (cc := .ge) (by decide) rfl
theorem g67_12 : rg Z d rx_m67 12 [l0, some (.int x)] S (rz_mk h ι, w) = rg Z d rx_m67 13 [l0, some (.int x)] (.int x :: S) (rz_mk h ι, w) := rz_s1 fun _ => rfl
theorem g67_13 : rg Z d rx_m67 13 L S (rz_mk h ι, w) = rg Z d rx_m67 15 L (.int 8 :: S) (rz_mk h ι, w) := rz_s1 fun _ => rfl
theorem g67_15 : rg Z d rx_m67 15 L (.int y :: .int x :: S) (rz_mk h ι, w) = if x < y then rg Z d rx_m67 18 L S (rz_mk h ι, w) else rg Z d rx_m67 22 L S (rz_mk h ι, w) := rz_if2 (pc := 15) (t := 22) (off := 7) (cc := .ge) (by decide) rfl
theorem g67_18 : rg Z d rx_m67 18 L S (rz_mk h ι, w) = rg Z d rx_m67 19 L (.int 1 :: S) (rz_mk h ι, w) := rz_s1 fun _ => rfl
theorem g67_19 : rg Z d rx_m67 19 L S (rz_mk h ι, w) = rg Z d rx_m67 23 L S (rz_mk h ι, w) := rz_s1 fun _ => rfl
theorem g67_22 : rg Z d rx_m67 22 L S (rz_mk h ι, w) = rg Z d rx_m67 23 L (.int 0 :: S) (rz_mk h ι, w) := rz_s1 fun _ => rfl
theorem g67_23 (c : narrow .boolean (.int x) = .int x) : rg Z d rx_m67 23 L [.int x] (rz_mk h ι, w) = some (.inl (some (.int x)), (rz_mk h ι, w)) := rz_reti rfl rfl c
theorem e67 : rz_f Z (d + 1) 67 [.ref t0, .int s1] σ = rg Z d rx_m67 0 [some (.ref t0), some (.int s1)] [] σ := rz_f_eq rfl (Nat.le_of_ble_eq_true rfl)
theorem g68_0 : rg Z d rx_m68 0 [l0, some (.int x)] S (rz_mk h ι, w) = rg Z d rx_m68 1 [l0, some (.int x)] (.int x :: S) (rz_mk h ι, w) := rz_s1 fun _ => rfl
theorem g68_1 : rg Z d rx_m68 1 L (.int x :: S) (rz_mk h ι, w) = if x < 0 then rg Z d rx_m68 26 L S (rz_mk h ι, w) else rg Z d rx_m68 4 L S (rz_mk h ι, w) := rz_if1 (pc := 1) (t := 26) (off := 25) (cc := .lt) (by decide) rfl
theorem g68_4 : rg Z d rx_m68 4 [l0, some (.int x)] S (rz_mk h ι, w) = rg Z d rx_m68 5 [l0, some (.int x)] (.int x :: S) (rz_mk h ι, w) := rz_s1 fun _ => rfl
theorem g68_5 : rg Z d rx_m68 5 L S (rz_mk h ι, w) = rg Z d rx_m68 7 L (.int 8 :: S) (rz_mk h ι, w) := rz_s1 fun _ => rfl
theorem g68_7 : rg Z d rx_m68 7 L (.int y :: .int x :: S) (rz_mk h ι, w) = if x < y then rg Z d rx_m68 10 L S (rz_mk h ι, w) else rg Z d rx_m68 26 L S (rz_mk h ι, w) := rz_if2 (pc := 7) (t := 26) (off := 19) (cc := .ge) (by decide) rfl
theorem g68_10 : rg Z d rx_m68 10 [some (.ref a), l1] S (rz_mk h ι, w) = rg Z d rx_m68 11 [some (.ref a), l1] (.ref a :: S) (rz_mk h ι, w) := rz_s1 fun _ => rfl
theorem g68_11 (c : rz_fI h a 8 4) : rg Z d rx_m68 11 L (.ref a :: S) (rz_mk h ι, w) = rg Z d rx_m68 14 L (.int (ι a 4) :: S) (rz_mk h ι, w) := rz_gI rfl (by decide) c
theorem g68_14 : rg Z d rx_m68 14 [l0, some (.int x)] S (rz_mk h ι, w) = rg Z d rx_m68 15 [l0, some (.int x)] (.int x :: S) (rz_mk h ι, w) := rz_s1 fun _ => rfl
theorem g68_15 : rg Z d rx_m68 15 L (.int y :: .int x :: S) (rz_mk h ι, w) = rg Z d rx_m68 16 L (.int (x >>> (y &&& 31)) :: S) (rz_mk h ι, w) := rz_s1 fun _ => rfl
theorem g68_16 : rg Z d rx_m68 16 L S (rz_mk h ι, w) = rg Z d rx_m68 17 L (.int 1 :: S) (rz_mk h ι, w) := rz_s1 fun _ => rfl
theorem g68_17 : rg Z d rx_m68 17 L (.int y :: .int x :: S) (rz_mk h ι, w) = rg Z d rx_m68 18 L (.int (x &&& y) :: S) (rz_mk h ι, w) := rz_s1 fun _ => rfl
theorem g68_18 : rg Z d rx_m68 18 L S (rz_mk h ι, w) = rg Z d rx_m68 19 L (.int 1 :: S) (rz_mk h ι, w) := rz_s1 fun _ => rfl
theorem g68_19 : rg Z d rx_m68 19 L (.int y :: .int x :: S) (rz_mk h ι, w) = if x = y then rg Z d rx_m68 22 L S (rz_mk h ι, w) else rg Z d rx_m68 26 L S (rz_mk h ι, w) := rz_if2 (pc := 19) (t := 26) (off := 7) (cc := .ne) (by decide) rfl
theorem g68_22 : rg Z d rx_m68 22 L S (rz_mk h ι, w) = rg Z d rx_m68 23 L (.int 1 :: S) (rz_mk h ι, w) := rz_s1 fun _ => rfl
theorem g68_23 : rg Z d rx_m68 23 L S (rz_mk h ι, w) = rg Z d rx_m68 27 L S (rz_mk h ι, w) := rz_s1 fun _ => rfl
theorem g68_26 : rg Z d rx_m68 26 L S (rz_mk h ι, w) = rg Z d rx_m68 27 L (.int 0 :: S) (rz_mk h ι, w) := rz_s1 fun _ => rfl
theorem g68_27 (c : narrow .boolean (.int x) = .int x) : rg Z d rx_m68 27 L [.int x] (rz_mk h ι, w) = some (.inl (some (.int x)), (rz_mk h ι, w)) := rz_reti rfl rfl c
theorem e68 : rz_f Z (d + 1) 68 [.ref t0, .int s1] σ = rg Z d rx_m68 0 [some (.ref t0), some (.int s1)] [] σ := rz_f_eq rfl (Nat.le_of_ble_eq_true rfl)
theorem g69_0 : rg Z d rx_m69 0 [some (.ref a)] S (rz_mk h ι, w) = rg Z d rx_m69 1 [some (.ref a)] (.ref a :: S) (rz_mk h ι, w) := rz_s1 fun _ => rfl
theorem g69_1 (c : rz_fI h a 8 4) : rg Z d rx_m69 1 L (.ref a :: S) (rz_mk h ι, w) = rg Z d rx_m69 4 L (.int (ι a 4) :: S) (rz_mk h ι, w) := rz_gI rfl (by decide) c
theorem g69_4 : rg Z d rx_m69 4 L (v1 :: []) (rz_mk h ι, w) = rz_k true (rz_f Z d 290 [v1] (rz_mk h ι, w)) (fun v σ' => rg Z d rx_m69 7 L (v.toList ++ []) σ') := rz_cs (pc := 4) (n := 1) (mi := 290) (S := v1 :: []) (rest := []) rfl rfl (Nat.le_of_ble_eq_true rfl) (Nat.le_of_ble_eq_true rfl)
theorem g69_7 : rg Z d rx_m69 7 L [.int x] (rz_mk h ι, w) = some (.inl (some (.int x)), (rz_mk h ι, w)) := rz_reti rfl rfl rfl
theorem e69 : rz_f Z (d + 1) 69 [.ref t0] σ = rg Z d rx_m69 0 [some (.ref t0)] [] σ := rz_f_eq rfl (Nat.le_of_ble_eq_true rfl)
theorem g70_0 : rg Z d rx_m70 0 [l0, some (.int x), l2, l3] S (rz_mk h ι, w) = rg Z d rx_m70 1 [l0, some (.int x), l2, l3] (.int x :: S) (rz_mk h ι, w) := rz_s1 fun _ => rfl
theorem g70_1 : rg Z d rx_m70 1 L S (rz_mk h ι, w) = rg Z d rx_m70 2 L (.int 3 :: S) (rz_mk h ι, w) := rz_s1 fun _ => rfl
theorem g70_2 : rg Z d rx_m70 2 L (.int y :: .int x :: S) (rz_mk h ι, w) = rg Z d rx_m70 3 L (.int (x * y) :: S) (rz_mk h ι, w) := rz_s1 fun _ => rfl
theorem g70_3 : rg Z d rx_m70 3 [l0, l1, some (.int x), l3] S (rz_mk h ι, w) = rg Z d rx_m70 4 [l0, l1, some (.int x), l3] (.int x :: S) (rz_mk h ι, w) := rz_s1 fun _ => rfl
theorem g70_4 : rg Z d rx_m70 4 L (.int y :: .int x :: S) (rz_mk h ι, w) = rg Z d rx_m70 5 L (.int (x + y) :: S) (rz_mk h ι, w) := rz_s1 fun _ => rfl
theorem g70_5 : rg Z d rx_m70 5 [l0, l1, some (.int z), l3] (.int x :: S) (rz_mk h ι, w) = rg Z d rx_m70 6 [l0, l1, some (.int z), some (.int x)] S (rz_mk h ι, w) := rz_s1 fun _ => rfl
theorem g70_6 : rg Z d rx_m70 6 [l0, l1, l2, some (.int x)] S (rz_mk h ι, w) = rg Z d rx_m70 7 [l0, l1, l2, some (.int x)] (.int x :: S) (rz_mk h ι, w) := rz_s1 fun _ => rfl
theorem g70_7 : rg Z d rx_m70 7 L (.int x :: S) (rz_mk h ι, w) = if x < 0 then rg Z d rx_m70 28 L S (rz_mk h ι, w) else rg Z d rx_m70 10 L S (rz_mk h ι, w) := rz_if1 (pc := 7) (t := 28) (off := 21) (cc := .lt) (by decide) rfl
theorem g70_10 : rg Z d rx_m70 10 [l0, l1, l2, some (.int x)] S (rz_mk h ι, w) = rg Z d rx_m70 11 [l0, l1, l2, some (.int x)] (.int x :: S) (rz_mk h ι, w) := rz_s1 fun _ => rfl
theorem g70_11 : rg Z d rx_m70 11 [some (.ref a), l1, l2, l3] S (rz_mk h ι, w) = rg Z d rx_m70 12 [some (.ref a), l1, l2, l3] (.ref a :: S) (rz_mk h ι, w) := rz_s1 fun _ => rfl
theorem g70_12 (c : rz_fR h a 8 1) : rg Z d rx_m70 12 L (.ref a :: S) (rz_mk h ι, w) = rg Z d rx_m70 15 L (rz_rv h a 1 :: S) (rz_mk h ι, w) := rz_gR rfl (by decide) c
theorem g70_15 (c : rz_ar h a 0) : rg Z d rx_m70 15 L (.ref a :: S) (rz_mk h ι, w) = rg Z d rx_m70 16 L (.int (Int32.ofNat (rz_ln h a)) :: S) (rz_mk h ι, w) := rz_alen (by decide) rfl c
theorem g70_16 : rg Z d rx_m70 16 L (.int y :: .int x :: S) (rz_mk h ι, w) = if x < y then rg Z d rx_m70 19 L S (rz_mk h ι, w) else rg Z d rx_m70 28 L S (rz_mk h ι, w) := rz_if2 (pc := 16) (t := 28) (off := 12) (cc := .ge) (by decide) rfl
theorem g70_19 : rg Z d rx_m70 19 [some (.ref a), l1, l2, l3] S (rz_mk h ι, w) = rg Z d rx_m70 20 [some (.ref a), l1, l2, l3] (.ref a :: S) (rz_mk h ι, w) := rz_s1 fun _ => rfl
theorem g70_20 (c : rz_fR h a 8 1) : rg Z d rx_m70 20 L (.ref a :: S) (rz_mk h ι, w) = rg Z d rx_m70 23 L (rz_rv h a 1 :: S) (rz_mk h ι, w) := rz_gR rfl (by decide) c
theorem g70_23 : rg Z d rx_m70 23 [l0, l1, l2, some (.int x)] S (rz_mk h ι, w) = rg Z d rx_m70 24 [l0, l1, l2, some (.int x)] (.int x :: S) (rz_mk h ι, w) := rz_s1 fun _ => rfl
theorem g70_24 (c : rz_ar h a 0) (hi : rz_ix x (rz_ln h a)) : rg Z d rx_m70 24 L (.int x :: .ref a :: S) (rz_mk h ι, w) = rg Z d rx_m70 25 L (.int (ι a x.toNatClampNeg) :: S) (rz_mk h ι, w) := rz_iald rfl c hi
theorem g70_25 : rg Z d rx_m70 25 L S (rz_mk h ι, w) = rg Z d rx_m70 29 L S (rz_mk h ι, w) := rz_s1 fun _ => rfl
theorem g70_28 : rg Z d rx_m70 28 L S (rz_mk h ι, w) = rg Z d rx_m70 29 L (.int 0 :: S) (rz_mk h ι, w) := rz_s1 fun _ => rfl
theorem g70_29 : rg Z d rx_m70 29 L [.int x] (rz_mk h ι, w) = some (.inl (some (.int x)), (rz_mk h ι, w)) := rz_reti rfl rfl rfl
theorem e70 : rz_f Z (d + 1) 70 [.ref t0, .int s1, .int s2] σ = rg Z d rx_m70 0 [some (.ref t0), some (.int s1), some (.int s2), none] [] σ := rz_f_eq rfl (Nat.le_of_ble_eq_true rfl)
theorem g71_0 : rg Z d rx_m71 0 [l0, some (.int x), l2, l3] S (rz_mk h ι, w) = rg Z d rx_m71 1 [l0, some (.int x), l2, l3] (.int x :: S) (rz_mk h ι, w) := rz_s1 fun _ => rfl
theorem g71_1 : rg Z d rx_m71 1 L S (rz_mk h ι, w) = rg Z d rx_m71 2 L (.int 3 :: S) (rz_mk h ι, w) := rz_s1 fun _ => rfl
theorem g71_2 : rg Z d rx_m71 2 L (.int y :: .int x :: S) (rz_mk h ι, w) = rg Z d rx_m71 3 L (.int (x * y) :: S) (rz_mk h ι, w) := rz_s1 fun _ => rfl
theorem g71_3 : rg Z d rx_m71 3 [l0, l1, some (.int x), l3] S (rz_mk h ι, w) = rg Z d rx_m71 4 [l0, l1, some (.int x), l3] (.int x :: S) (rz_mk h ι, w) := rz_s1 fun _ => rfl
theorem g71_4 : rg Z d rx_m71 4 L (.int y :: .int x :: S) (rz_mk h ι, w) = rg Z d rx_m71 5 L (.int (x + y) :: S) (rz_mk h ι, w) := rz_s1 fun _ => rfl
theorem g71_5 : rg Z d rx_m71 5 [l0, l1, some (.int z), l3] (.int x :: S) (rz_mk h ι, w) = rg Z d rx_m71 6 [l0, l1, some (.int z), some (.int x)] S (rz_mk h ι, w) := rz_s1 fun _ => rfl
theorem g71_6 : rg Z d rx_m71 6 [l0, l1, l2, some (.int x)] S (rz_mk h ι, w) = rg Z d rx_m71 7 [l0, l1, l2, some (.int x)] (.int x :: S) (rz_mk h ι, w) := rz_s1 fun _ => rfl
theorem g71_7 : rg Z d rx_m71 7 L (.int x :: S) (rz_mk h ι, w) = if x < 0 then rg Z d rx_m71 28 L S (rz_mk h ι, w) else rg Z d rx_m71 10 L S (rz_mk h ι, w) := rz_if1 (pc := 7) (t := 28) (off := 21) (cc := .lt) (by decide) rfl
theorem g71_10 : rg Z d rx_m71 10 [l0, l1, l2, some (.int x)] S (rz_mk h ι, w) = rg Z d rx_m71 11 [l0, l1, l2, some (.int x)] (.int x :: S) (rz_mk h ι, w) := rz_s1 fun _ => rfl
theorem g71_11 : rg Z d rx_m71 11 [some (.ref a), l1, l2, l3] S (rz_mk h ι, w) = rg Z d rx_m71 12 [some (.ref a), l1, l2, l3] (.ref a :: S) (rz_mk h ι, w) := rz_s1 fun _ => rfl
theorem g71_12 (c : rz_fR h a 8 0) : rg Z d rx_m71 12 L (.ref a :: S) (rz_mk h ι, w) = rg Z d rx_m71 15 L (rz_rv h a 0 :: S) (rz_mk h ι, w) := rz_gR rfl (by decide) c
theorem g71_15 (c : rz_ar h a 0) : rg Z d rx_m71 15 L (.ref a :: S) (rz_mk h ι, w) = rg Z d rx_m71 16 L (.int (Int32.ofNat (rz_ln h a)) :: S) (rz_mk h ι, w) := rz_alen (by decide) rfl c
theorem g71_16 : rg Z d rx_m71 16 L (.int y :: .int x :: S) (rz_mk h ι, w) = if x < y then rg Z d rx_m71 19 L S (rz_mk h ι, w) else rg Z d rx_m71 28 L S (rz_mk h ι, w) := rz_if2 (pc := 16) (t := 28) (off := 12) (cc := .ge) (by decide) rfl
theorem g71_19 : rg Z d rx_m71 19 [some (.ref a), l1, l2, l3] S (rz_mk h ι, w) = rg Z d rx_m71 20 [some (.ref a), l1, l2, l3] (.ref a :: S) (rz_mk h ι, w) := rz_s1 fun _ => rfl
theorem g71_20 (c : rz_fR h a 8 0) : rg Z d rx_m71 20 L (.ref a :: S) (rz_mk h ι, w) = rg Z d rx_m71 23 L (rz_rv h a 0 :: S) (rz_mk h ι, w) := rz_gR rfl (by decide) c
theorem g71_23 : rg Z d rx_m71 23 [l0, l1, l2, some (.int x)] S (rz_mk h ι, w) = rg Z d rx_m71 24 [l0, l1, l2, some (.int x)] (.int x :: S) (rz_mk h ι, w) := rz_s1 fun _ => rfl
theorem g71_24 (c : rz_ar h a 0) (hi : rz_ix x (rz_ln h a)) : rg Z d rx_m71 24 L (.int x :: .ref a :: S) (rz_mk h ι, w) = rg Z d rx_m71 25 L (.int (ι a x.toNatClampNeg) :: S) (rz_mk h ι, w) := rz_iald rfl c hi
theorem g71_25 : rg Z d rx_m71 25 L S (rz_mk h ι, w) = rg Z d rx_m71 29 L S (rz_mk h ι, w) := rz_s1 fun _ => rfl
theorem g71_28 : rg Z d rx_m71 28 L S (rz_mk h ι, w) = rg Z d rx_m71 29 L (.int 0 :: S) (rz_mk h ι, w) := rz_s1 fun _ => rfl
theorem g71_29 : rg Z d rx_m71 29 L [.int x] (rz_mk h ι, w) = some (.inl (some (.int x)), (rz_mk h ι, w)) := rz_reti rfl rfl rfl
theorem e71 : rz_f Z (d + 1) 71 [.ref t0, .int s1, .int s2] σ = rg Z d rx_m71 0 [some (.ref t0), some (.int s1), some (.int s2), none] [] σ := rz_f_eq rfl (Nat.le_of_ble_eq_true rfl)
theorem g72_0 : rg Z d rx_m72 0 [l0, some (.int x)] S (rz_mk h ι, w) = rg Z d rx_m72 1 [l0, some (.int x)] (.int x :: S) (rz_mk h ι, w) := rz_s1 fun _ => rfl
theorem g72_1 : rg Z d rx_m72 1 L (.int x :: S) (rz_mk h ι, w) = if x < 0 then rg Z d rx_m72 22 L S (rz_mk h ι, w) else rg Z d rx_m72 4 L S (rz_mk h ι, w) := rz_if1 (pc := 1) (t := 22) (off := 21) (cc := .lt) (by decide) rfl
theorem g72_4 : rg Z d rx_m72 4 [l0, some (.int x)] S (rz_mk h ι, w) = rg Z d rx_m72 5 [l0, some (.int x)] (.int x :: S) (rz_mk h ι, w) := rz_s1 fun _ => rfl
theorem g72_5 : rg Z d rx_m72 5 [some (.ref a), l1] S (rz_mk h ι, w) = rg Z d rx_m72 6 [some (.ref a), l1] (.ref a :: S) (rz_mk h ι, w) := rz_s1 fun _ => rfl
theorem g72_6 (c : rz_fR h a 8 2) : rg Z d rx_m72 6 L (.ref a :: S) (rz_mk h ι, w) = rg Z d rx_m72 9 L (rz_rv h a 2 :: S) (rz_mk h ι, w) := rz_gR rfl (by decide) c
theorem g72_9 (c : rz_ar h a 0) : rg Z d rx_m72 9 L (.ref a :: S) (rz_mk h ι, w) = rg Z d rx_m72 10 L (.int (Int32.ofNat (rz_ln h a)) :: S) (rz_mk h ι, w) := rz_alen (by decide) rfl c
theorem g72_10 : rg Z d rx_m72 10 L (.int y :: .int x :: S) (rz_mk h ι, w) = if x < y then rg Z d rx_m72 13 L S (rz_mk h ι, w) else rg Z d rx_m72 22 L S (rz_mk h ι, w) := rz_if2 (pc := 10) (t := 22) (off := 12) (cc := .ge) (by decide) rfl
theorem g72_13 : rg Z d rx_m72 13 [some (.ref a), l1] S (rz_mk h ι, w) = rg Z d rx_m72 14 [some (.ref a), l1] (.ref a :: S) (rz_mk h ι, w) := rz_s1 fun _ => rfl
theorem g72_14 (c : rz_fR h a 8 2) : rg Z d rx_m72 14 L (.ref a :: S) (rz_mk h ι, w) = rg Z d rx_m72 17 L (rz_rv h a 2 :: S) (rz_mk h ι, w) := rz_gR rfl (by decide) c
theorem g72_17 : rg Z d rx_m72 17 [l0, some (.int x)] S (rz_mk h ι, w) = rg Z d rx_m72 18 [l0, some (.int x)] (.int x :: S) (rz_mk h ι, w) := rz_s1 fun _ => rfl
theorem g72_18 (c : rz_ar h a 0) (hi : rz_ix x (rz_ln h a)) : rg Z d rx_m72 18 L (.int x :: .ref a :: S) (rz_mk h ι, w) = rg Z d rx_m72 19 L (.int (ι a x.toNatClampNeg) :: S) (rz_mk h ι, w) := rz_iald rfl c hi
theorem g72_19 : rg Z d rx_m72 19 L S (rz_mk h ι, w) = rg Z d rx_m72 23 L S (rz_mk h ι, w) := rz_s1 fun _ => rfl
theorem g72_22 : rg Z d rx_m72 22 L S (rz_mk h ι, w) = rg Z d rx_m72 23 L (.int 0 :: S) (rz_mk h ι, w) := rz_s1 fun _ => rfl
theorem g72_23 : rg Z d rx_m72 23 L [.int x] (rz_mk h ι, w) = some (.inl (some (.int x)), (rz_mk h ι, w)) := rz_reti rfl rfl rfl
theorem e72 : rz_f Z (d + 1) 72 [.ref t0, .int s1] σ = rg Z d rx_m72 0 [some (.ref t0), some (.int s1)] [] σ := rz_f_eq rfl (Nat.le_of_ble_eq_true rfl)
theorem g73_0 : rg Z d rx_m73 0 [some (.ref a), l1, l2, l3] S (rz_mk h ι, w) = rg Z d rx_m73 1 [some (.ref a), l1, l2, l3] (.ref a :: S) (rz_mk h ι, w) := rz_s1 fun _ => rfl
theorem g73_1 : rg Z d rx_m73 1 [l0, some (.int x), l2, l3] S (rz_mk h ι, w) = rg Z d rx_m73 2 [l0, some (.int x), l2, l3] (.int x :: S) (rz_mk h ι, w) := rz_s1 fun _ => rfl
theorem g73_2 : rg Z d rx_m73 2 [l0, l1, l2, some (.int x)] S (rz_mk h ι, w) = rg Z d rx_m73 3 [l0, l1, l2, some (.int x)] (.int x :: S) (rz_mk h ι, w) := rz_s1 fun _ => rfl
theorem g73_3 (c : rz_oc h a 8) : rg Z d rx_m73 3 L (v2 :: v1 :: .ref a :: []) (rz_mk h ι, w) = rz_k true (rz_f Z d 70 [.ref a, v1, v2] (rz_mk h ι, w)) (fun v σ' => rg Z d rx_m73 6 L (v.toList ++ []) σ') := rz_cv (pc := 3) (n := 2) (mi := 70) (S := v2 :: v1 :: .ref a :: []) (rest := []) rfl rfl (Nat.le_of_ble_eq_true rfl) (Nat.le_of_ble_eq_true rfl) c
theorem g73_6 : rg Z d rx_m73 6 [some (.ref a), l1, l2, l3] S (rz_mk h ι, w) = rg Z d rx_m73 7 [some (.ref a), l1, l2, l3] (.ref a :: S) (rz_mk h ι, w) := rz_s1 fun _ => rfl
theorem g73_7 : rg Z d rx_m73 7 [l0, l1, some (.int x), l3] S (rz_mk h ι, w) = rg Z d rx_m73 8 [l0, l1, some (.int x), l3] (.int x :: S) (rz_mk h ι, w) := rz_s1 fun _ => rfl
theorem g73_8 : rg Z d rx_m73 8 [l0, l1, l2, some (.int x)] S (rz_mk h ι, w) = rg Z d rx_m73 9 [l0, l1, l2, some (.int x)] (.int x :: S) (rz_mk h ι, w) := rz_s1 fun _ => rfl
theorem g73_9 (c : rz_oc h a 8) : rg Z d rx_m73 9 L (v2 :: v1 :: .ref a :: [.int s0]) (rz_mk h ι, w) = rz_k true (rz_f Z d 70 [.ref a, v1, v2] (rz_mk h ι, w)) (fun v σ' => rg Z d rx_m73 12 L (v.toList ++ [.int s0]) σ') := rz_cv (pc := 9) (n := 2) (mi := 70) (S := v2 :: v1 :: .ref a :: [.int s0]) (rest := [.int s0]) rfl rfl (Nat.le_of_ble_eq_true rfl) (Nat.le_of_ble_eq_true rfl) c
theorem g73_12 : rg Z d rx_m73 12 L (.int y :: .int x :: S) (rz_mk h ι, w) = rg Z d rx_m73 13 L (.int (x - y) :: S) (rz_mk h ι, w) := rz_s1 fun _ => rfl
theorem g73_13 : rg Z d rx_m73 13 L (.int x :: []) (rz_mk h ι, w) = rg Z d rx_m73 16 L (.int (if 0 ≤ x then x else 0 - x) :: []) (rz_mk h ι, w) := rz_abs rfl (Nat.le_of_ble_eq_true rfl)
theorem g73_16 : rg Z d rx_m73 16 L [.int x] (rz_mk h ι, w) = some (.inl (some (.int x)), (rz_mk h ι, w)) := rz_reti rfl rfl rfl
theorem e73 : rz_f Z (d + 1) 73 [.ref t0, .int s1, .int s2, .int s3] σ = rg Z d rx_m73 0 [some (.ref t0), some (.int s1), some (.int s2), some (.int s3)] [] σ := rz_f_eq rfl (Nat.le_of_ble_eq_true rfl)
theorem g74_0 : rg Z d rx_m74 0 L S (rz_mk h ι, w) = rg Z d rx_m74 1 L (.int 0 :: S) (rz_mk h ι, w) := rz_s1 fun _ => rfl
theorem g74_1 : rg Z d rx_m74 1 [l0, l1, some (.int z), l3, l4] (.int x :: S) (rz_mk h ι, w) = rg Z d rx_m74 2 [l0, l1, some (.int z), some (.int x), l4] S (rz_mk h ι, w) := rz_s1 fun _ => rfl
theorem g74_2 : rg Z d rx_m74 2 L S (rz_mk h ι, w) = rg Z d rx_m74 3 L (.int 0 :: S) (rz_mk h ι, w) := rz_s1 fun _ => rfl
theorem g74_3 : rg Z d rx_m74 3 [l0, l1, l2, some (.int z), l4] (.int x :: S) (rz_mk h ι, w) = rg Z d rx_m74 5 [l0, l1, l2, some (.int z), some (.int x)] S (rz_mk h ι, w) := rz_s1 fun _ => rfl
theorem g74_5 : rg Z d rx_m74 5 [l0, l1, l2, l3, some (.int x)] S (rz_mk h ι, w) = rg Z d rx_m74 7 [l0, l1, l2, l3, some (.int x)] (.int x :: S) (rz_mk h ι, w) := rz_s1 fun _ => rfl
theorem g74_7 : rg Z d rx_m74 7 L S (rz_mk h ι, w) = rg Z d rx_m74 8 L (.int 3 :: S) (rz_mk h ι, w) := rz_s1 fun _ => rfl
theorem g74_8 : rg Z d rx_m74 8 L (.int y :: .int x :: S) (rz_mk h ι, w) = if x < y then rg Z d rx_m74 11 L S (rz_mk h ι, w) else rg Z d rx_m74 39 L S (rz_mk h ι, w) := rz_if2 (pc := 8) (t := 39) (off := 31) (cc := .ge) (by decide) rfl
theorem g74_11 : rg Z d rx_m74 11 [l0, l1, l2, some (.int x), l4] S (rz_mk h ι, w) = rg Z d rx_m74 12 [l0, l1, l2, some (.int x), l4] (.int x :: S) (rz_mk h ι, w) := rz_s1 fun _ => rfl
theorem g74_12 : rg Z d rx_m74 12 [some (.ref a), l1, l2, l3, l4] S (rz_mk h ι, w) = rg Z d rx_m74 13 [some (.ref a), l1, l2, l3, l4] (.ref a :: S) (rz_mk h ι, w) := rz_s1 fun _ => rfl
theorem g74_13 : rg Z d rx_m74 13 [l0, some (.int x), l2, l3, l4] S (rz_mk h ι, w) = rg Z d rx_m74 14 [l0, some (.int x), l2, l3, l4] (.int x :: S) (rz_mk h ι, w) := rz_s1 fun _ => rfl
theorem g74_14 : rg Z d rx_m74 14 [l0, l1, some (.int x), l3, l4] S (rz_mk h ι, w) = rg Z d rx_m74 15 [l0, l1, some (.int x), l3, l4] (.int x :: S) (rz_mk h ι, w) := rz_s1 fun _ => rfl
theorem g74_15 : rg Z d rx_m74 15 [l0, l1, l2, l3, some (.int x)] S (rz_mk h ι, w) = rg Z d rx_m74 17 [l0, l1, l2, l3, some (.int x)] (.int x :: S) (rz_mk h ι, w) := rz_s1 fun _ => rfl
theorem g74_17 (c : rz_oc h a 8) : rg Z d rx_m74 17 L (v3 :: v2 :: v1 :: .ref a :: [.int s0]) (rz_mk h ι, w) = rz_k true (rz_f Z d 73 [.ref a, v1, v2, v3] (rz_mk h ι, w)) (fun v σ' => rg Z d rx_m74 20 L (v.toList ++ [.int s0]) σ') := rz_cv (pc := 17) (n := 3) (mi := 73) (S := v3 :: v2 :: v1 :: .ref a :: [.int s0]) (rest := [.int s0]) rfl rfl (Nat.le_of_ble_eq_true rfl) (Nat.le_of_ble_eq_true rfl) c
theorem g74_20 : rg Z d rx_m74 20 L (.int x :: S) (rz_mk h ι, w) = if x = 0 then rg Z d rx_m74 23 L S (rz_mk h ι, w) else rg Z d rx_m74 27 L S (rz_mk h ι, w) := rz_if1 (pc := 20) (t := 27) (off := 7) (cc := .ne) (by decide) rfl
theorem g74_23 : rg Z d rx_m74 23 L S (rz_mk h ι, w) = rg Z d rx_m74 24 L (.int 0 :: S) (rz_mk h ι, w) := rz_s1 fun _ => rfl
theorem g74_24 : rg Z d rx_m74 24 L S (rz_mk h ι, w) = rg Z d rx_m74 31 L S (rz_mk h ι, w) := rz_s1 fun _ => rfl
theorem g74_27 : rg Z d rx_m74 27 L S (rz_mk h ι, w) = rg Z d rx_m74 28 L (.int 1 :: S) (rz_mk h ι, w) := rz_s1 fun _ => rfl
theorem g74_28 : rg Z d rx_m74 28 [l0, l1, l2, l3, some (.int x)] S (rz_mk h ι, w) = rg Z d rx_m74 30 [l0, l1, l2, l3, some (.int x)] (.int x :: S) (rz_mk h ι, w) := rz_s1 fun _ => rfl
theorem g74_30 : rg Z d rx_m74 30 L (.int y :: .int x :: S) (rz_mk h ι, w) = rg Z d rx_m74 31 L (.int (x <<< (y &&& 31)) :: S) (rz_mk h ι, w) := rz_s1 fun _ => rfl
theorem g74_31 : rg Z d rx_m74 31 L (.int y :: .int x :: S) (rz_mk h ι, w) = rg Z d rx_m74 32 L (.int (x ||| y) :: S) (rz_mk h ι, w) := rz_s1 fun _ => rfl
theorem g74_32 : rg Z d rx_m74 32 [l0, l1, some (.int z), l3, l4] (.int x :: S) (rz_mk h ι, w) = rg Z d rx_m74 33 [l0, l1, some (.int z), some (.int x), l4] S (rz_mk h ι, w) := rz_s1 fun _ => rfl
theorem g74_33 : rg Z d rx_m74 33 [l0, l1, l2, some (.int z), some (.int x)] S (rz_mk h ι, w) = rg Z d rx_m74 36 [l0, l1, l2, some (.int z), some (.int (x + 1))] S (rz_mk h ι, w) := rz_s1 fun _ => rfl
theorem g74_36 : rg Z d rx_m74 36 L S (rz_mk h ι, w) = rg Z d rx_m74 5 L S (rz_mk h ι, w) := rz_s1 fun _ => rfl
theorem g74_39 : rg Z d rx_m74 39 [l0, l1, l2, some (.int x), l4] S (rz_mk h ι, w) = rg Z d rx_m74 40 [l0, l1, l2, some (.int x), l4] (.int x :: S) (rz_mk h ι, w) := rz_s1 fun _ => rfl
theorem g74_40 : rg Z d rx_m74 40 L [.int x] (rz_mk h ι, w) = some (.inl (some (.int x)), (rz_mk h ι, w)) := rz_reti rfl rfl rfl
theorem e74 : rz_f Z (d + 1) 74 [.ref t0, .int s1, .int s2] σ = rg Z d rx_m74 0 [some (.ref t0), some (.int s1), some (.int s2), none, none] [] σ := rz_f_eq rfl (Nat.le_of_ble_eq_true rfl)
theorem g75_0 : rg Z d rx_m75 0 L S (rz_mk h ι, w) = rg Z d rx_m75 1 L (.int 0 :: S) (rz_mk h ι, w) := rz_s1 fun _ => rfl
theorem g75_1 : rg Z d rx_m75 1 [l0, some (.int z), l2, l3] (.int x :: S) (rz_mk h ι, w) = rg Z d rx_m75 2 [l0, some (.int z), some (.int x), l3] S (rz_mk h ι, w) := rz_s1 fun _ => rfl
theorem g75_2 : rg Z d rx_m75 2 L S (rz_mk h ι, w) = rg Z d rx_m75 3 L (.int 0 :: S) (rz_mk h ι, w) := rz_s1 fun _ => rfl
theorem g75_3 : rg Z d rx_m75 3 [l0, l1, some (.int z), l3] (.int x :: S) (rz_mk h ι, w) = rg Z d rx_m75 4 [l0, l1, some (.int z), some (.int x)] S (rz_mk h ι, w) := rz_s1 fun _ => rfl
theorem g75_4 : rg Z d rx_m75 4 [l0, l1, l2, some (.int x)] S (rz_mk h ι, w) = rg Z d rx_m75 5 [l0, l1, l2, some (.int x)] (.int x :: S) (rz_mk h ι, w) := rz_s1 fun _ => rfl
theorem g75_5 : rg Z d rx_m75 5 L S (rz_mk h ι, w) = rg Z d rx_m75 6 L (.int 3 :: S) (rz_mk h ι, w) := rz_s1 fun _ => rfl
theorem g75_6 : rg Z d rx_m75 6 L (.int y :: .int x :: S) (rz_mk h ι, w) = if x < y then rg Z d rx_m75 9 L S (rz_mk h ι, w) else rg Z d rx_m75 40 L S (rz_mk h ι, w) := rz_if2 (pc := 6) (t := 40) (off := 34) (cc := .ge) (by decide) rfl
theorem g75_9 : rg Z d rx_m75 9 [l0, l1, some (.int x), l3] S (rz_mk h ι, w) = rg Z d rx_m75 10 [l0, l1, some (.int x), l3] (.int x :: S) (rz_mk h ι, w) := rz_s1 fun _ => rfl
theorem g75_10 : rg Z d rx_m75 10 [some (.ref a), l1, l2, l3] S (rz_mk h ι, w) = rg Z d rx_m75 11 [some (.ref a), l1, l2, l3] (.ref a :: S) (rz_mk h ι, w) := rz_s1 fun _ => rfl
theorem g75_11 : rg Z d rx_m75 11 [l0, some (.int x), l2, l3] S (rz_mk h ι, w) = rg Z d rx_m75 12 [l0, some (.int x), l2, l3] (.int x :: S) (rz_mk h ι, w) := rz_s1 fun _ => rfl
theorem g75_12 : rg Z d rx_m75 12 [l0, l1, l2, some (.int x)] S (rz_mk h ι, w) = rg Z d rx_m75 13 [l0, l1, l2, some (.int x)] (.int x :: S) (rz_mk h ι, w) := rz_s1 fun _ => rfl
theorem g75_13 (c : rz_oc h a 8) : rg Z d rx_m75 13 L (v2 :: v1 :: .ref a :: [.int s0]) (rz_mk h ι, w) = rz_k true (rz_f Z d 70 [.ref a, v1, v2] (rz_mk h ι, w)) (fun v σ' => rg Z d rx_m75 16 L (v.toList ++ [.int s0]) σ') := rz_cv (pc := 13) (n := 2) (mi := 70) (S := v2 :: v1 :: .ref a :: [.int s0]) (rest := [.int s0]) rfl rfl (Nat.le_of_ble_eq_true rfl) (Nat.le_of_ble_eq_true rfl) c
theorem g75_16 : rg Z d rx_m75 16 [some (.ref a), l1, l2, l3] S (rz_mk h ι, w) = rg Z d rx_m75 17 [some (.ref a), l1, l2, l3] (.ref a :: S) (rz_mk h ι, w) := rz_s1 fun _ => rfl
theorem g75_17 : rg Z d rx_m75 17 [l0, some (.int x), l2, l3] S (rz_mk h ι, w) = rg Z d rx_m75 18 [l0, some (.int x), l2, l3] (.int x :: S) (rz_mk h ι, w) := rz_s1 fun _ => rfl
theorem g75_18 : rg Z d rx_m75 18 [l0, l1, l2, some (.int x)] S (rz_mk h ι, w) = rg Z d rx_m75 19 [l0, l1, l2, some (.int x)] (.int x :: S) (rz_mk h ι, w) := rz_s1 fun _ => rfl
theorem g75_19 (c : rz_oc h a 8) : rg Z d rx_m75 19 L (v2 :: v1 :: .ref a :: [.int s0, .int s1]) (rz_mk h ι, w) = rz_k true (rz_f Z d 71 [.ref a, v1, v2] (rz_mk h ι, w)) (fun v σ' => rg Z d rx_m75 22 L (v.toList ++ [.int s0, .int s1]) σ') := rz_cv (pc := 19) (n := 2) (mi := 71) (S := v2 :: v1 :: .ref a :: [.int s0, .int s1]) (rest := [.int s0, .int s1]) rfl rfl (Nat.le_of_ble_eq_true rfl) (Nat.le_of_ble_eq_true rfl) c
theorem g75_22 : rg Z d rx_m75 22 L (.int y :: .int x :: S) (rz_mk h ι, w) = if x = y then rg Z d rx_m75 25 L S (rz_mk h ι, w) else rg Z d rx_m75 29 L S (rz_mk h ι, w) := rz_if2 (pc := 22) (t := 29) (off := 7) (cc := .ne) (by decide) rfl
theorem g75_25 : rg Z d rx_m75 25 L S (rz_mk h ι, w) = rg Z d rx_m75 26 L (.int 0 :: S) (rz_mk h ι, w) := rz_s1 fun _ => rfl
theorem g75_26 : rg Z d rx_m75 26 L S (rz_mk h ι, w) = rg Z d rx_m75 32 L S (rz_mk h ι, w) := rz_s1 fun _ => rfl
theorem g75_29 : rg Z d rx_m75 29 L S (rz_mk h ι, w) = rg Z d rx_m75 30 L (.int 1 :: S) (rz_mk h ι, w) := rz_s1 fun _ => rfl
theorem g75_30 : rg Z d rx_m75 30 [l0, l1, l2, some (.int x)] S (rz_mk h ι, w) = rg Z d rx_m75 31 [l0, l1, l2, some (.int x)] (.int x :: S) (rz_mk h ι, w) := rz_s1 fun _ => rfl
theorem g75_31 : rg Z d rx_m75 31 L (.int y :: .int x :: S) (rz_mk h ι, w) = rg Z d rx_m75 32 L (.int (x <<< (y &&& 31)) :: S) (rz_mk h ι, w) := rz_s1 fun _ => rfl
theorem g75_32 : rg Z d rx_m75 32 L (.int y :: .int x :: S) (rz_mk h ι, w) = rg Z d rx_m75 33 L (.int (x ||| y) :: S) (rz_mk h ι, w) := rz_s1 fun _ => rfl
theorem g75_33 : rg Z d rx_m75 33 [l0, some (.int z), l2, l3] (.int x :: S) (rz_mk h ι, w) = rg Z d rx_m75 34 [l0, some (.int z), some (.int x), l3] S (rz_mk h ι, w) := rz_s1 fun _ => rfl
theorem g75_34 : rg Z d rx_m75 34 [l0, l1, some (.int z), some (.int x)] S (rz_mk h ι, w) = rg Z d rx_m75 37 [l0, l1, some (.int z), some (.int (x + 1))] S (rz_mk h ι, w) := rz_s1 fun _ => rfl
theorem g75_37 : rg Z d rx_m75 37 L S (rz_mk h ι, w) = rg Z d rx_m75 4 L S (rz_mk h ι, w) := rz_s1 fun _ => rfl
theorem g75_40 : rg Z d rx_m75 40 [l0, l1, some (.int x), l3] S (rz_mk h ι, w) = rg Z d rx_m75 41 [l0, l1, some (.int x), l3] (.int x :: S) (rz_mk h ι, w) := rz_s1 fun _ => rfl
theorem g75_41 : rg Z d rx_m75 41 L [.int x] (rz_mk h ι, w) = some (.inl (some (.int x)), (rz_mk h ι, w)) := rz_reti rfl rfl rfl
theorem e75 : rz_f Z (d + 1) 75 [.ref t0, .int s1] σ = rg Z d rx_m75 0 [some (.ref t0), some (.int s1), none, none] [] σ := rz_f_eq rfl (Nat.le_of_ble_eq_true rfl)
theorem g76_0 : rg Z d rx_m76 0 [l0, some (.int x), l2, l3, l4] S (rz_mk h ι, w) = rg Z d rx_m76 1 [l0, some (.int x), l2, l3, l4] (.int x :: S) (rz_mk h ι, w) := rz_s1 fun _ => rfl
theorem g76_1 : rg Z d rx_m76 1 L S (rz_mk h ι, w) = rg Z d rx_m76 2 L (.int 3 :: S) (rz_mk h ι, w) := rz_s1 fun _ => rfl
theorem g76_2 : rg Z d rx_m76 2 L (.int y :: .int x :: S) (rz_mk h ι, w) = rg Z d rx_m76 3 L (.int (x * y) :: S) (rz_mk h ι, w) := rz_s1 fun _ => rfl
theorem g76_3 : rg Z d rx_m76 3 [l0, some (.int z), l2, l3, l4] (.int x :: S) (rz_mk h ι, w) = rg Z d rx_m76 4 [l0, some (.int z), some (.int x), l3, l4] S (rz_mk h ι, w) := rz_s1 fun _ => rfl
theorem g76_4 : rg Z d rx_m76 4 L S (rz_mk h ι, w) = rg Z d rx_m76 5 L (.int 0 :: S) (rz_mk h ι, w) := rz_s1 fun _ => rfl
theorem g76_5 : rg Z d rx_m76 5 [l0, l1, some (.int z), l3, l4] (.int x :: S) (rz_mk h ι, w) = rg Z d rx_m76 6 [l0, l1, some (.int z), some (.int x), l4] S (rz_mk h ι, w) := rz_s1 fun _ => rfl
theorem g76_6 : rg Z d rx_m76 6 [l0, l1, some (.int x), l3, l4] S (rz_mk h ι, w) = rg Z d rx_m76 7 [l0, l1, some (.int x), l3, l4] (.int x :: S) (rz_mk h ι, w) := rz_s1 fun _ => rfl
theorem g76_7 : rg Z d rx_m76 7 [l0, l1, l2, some (.int z), l4] (.int x :: S) (rz_mk h ι, w) = rg Z d rx_m76 9 [l0, l1, l2, some (.int z), some (.int x)] S (rz_mk h ι, w) := rz_s1 fun _ => rfl
theorem g76_9 : rg Z d rx_m76 9 [l0, l1, l2, l3, some (.int x)] S (rz_mk h ι, w) = rg Z d rx_m76 11 [l0, l1, l2, l3, some (.int x)] (.int x :: S) (rz_mk h ι, w) := rz_s1 fun _ => rfl
theorem g76_11 : rg Z d rx_m76 11 L (.int x :: S) (rz_mk h ι, w) = if x < 0 then rg Z d rx_m76 63 L S (rz_mk h ι, w) else rg Z d rx_m76 14 L S (rz_mk h ι, w) := rz_if1 (pc := 11) (t := 63) (off := 52) (cc := .lt) (by decide) rfl
theorem g76_14 : rg Z d rx_m76 14 [l0, l1, l2, l3, some (.int x)] S (rz_mk h ι, w) = rg Z d rx_m76 16 [l0, l1, l2, l3, some (.int x)] (.int x :: S) (rz_mk h ι, w) := rz_s1 fun _ => rfl
theorem g76_16 : rg Z d rx_m76 16 [l0, l1, some (.int x), l3, l4] S (rz_mk h ι, w) = rg Z d rx_m76 17 [l0, l1, some (.int x), l3, l4] (.int x :: S) (rz_mk h ι, w) := rz_s1 fun _ => rfl
theorem g76_17 : rg Z d rx_m76 17 L S (rz_mk h ι, w) = rg Z d rx_m76 18 L (.int 3 :: S) (rz_mk h ι, w) := rz_s1 fun _ => rfl
theorem g76_18 : rg Z d rx_m76 18 L (.int y :: .int x :: S) (rz_mk h ι, w) = rg Z d rx_m76 19 L (.int (x + y) :: S) (rz_mk h ι, w) := rz_s1 fun _ => rfl
theorem g76_19 : rg Z d rx_m76 19 L (.int y :: .int x :: S) (rz_mk h ι, w) = if x < y then rg Z d rx_m76 22 L S (rz_mk h ι, w) else rg Z d rx_m76 63 L S (rz_mk h ι, w) := rz_if2 (pc := 19) (t := 63) (off := 44) (cc := .ge) (by decide) rfl
theorem g76_22 : rg Z d rx_m76 22 [l0, l1, l2, l3, some (.int x)] S (rz_mk h ι, w) = rg Z d rx_m76 24 [l0, l1, l2, l3, some (.int x)] (.int x :: S) (rz_mk h ι, w) := rz_s1 fun _ => rfl
theorem g76_24 : rg Z d rx_m76 24 [some (.ref a), l1, l2, l3, l4] S (rz_mk h ι, w) = rg Z d rx_m76 25 [some (.ref a), l1, l2, l3, l4] (.ref a :: S) (rz_mk h ι, w) := rz_s1 fun _ => rfl
theorem g76_25 (c : rz_fR h a 8 0) : rg Z d rx_m76 25 L (.ref a :: S) (rz_mk h ι, w) = rg Z d rx_m76 28 L (rz_rv h a 0 :: S) (rz_mk h ι, w) := rz_gR rfl (by decide) c
theorem g76_28 (c : rz_ar h a 0) : rg Z d rx_m76 28 L (.ref a :: S) (rz_mk h ι, w) = rg Z d rx_m76 29 L (.int (Int32.ofNat (rz_ln h a)) :: S) (rz_mk h ι, w) := rz_alen (by decide) rfl c
theorem g76_29 : rg Z d rx_m76 29 L (.int y :: .int x :: S) (rz_mk h ι, w) = if x < y then rg Z d rx_m76 32 L S (rz_mk h ι, w) else rg Z d rx_m76 63 L S (rz_mk h ι, w) := rz_if2 (pc := 29) (t := 63) (off := 34) (cc := .ge) (by decide) rfl
theorem g76_32 : rg Z d rx_m76 32 [l0, l1, l2, some (.int x), l4] S (rz_mk h ι, w) = rg Z d rx_m76 33 [l0, l1, l2, some (.int x), l4] (.int x :: S) (rz_mk h ι, w) := rz_s1 fun _ => rfl
theorem g76_33 : rg Z d rx_m76 33 [some (.ref a), l1, l2, l3, l4] S (rz_mk h ι, w) = rg Z d rx_m76 34 [some (.ref a), l1, l2, l3, l4] (.ref a :: S) (rz_mk h ι, w) := rz_s1 fun _ => rfl
theorem g76_34 (c : rz_fR h a 8 0) : rg Z d rx_m76 34 L (.ref a :: S) (rz_mk h ι, w) = rg Z d rx_m76 37 L (rz_rv h a 0 :: S) (rz_mk h ι, w) := rz_gR rfl (by decide) c
theorem g76_37 : rg Z d rx_m76 37 [l0, l1, l2, l3, some (.int x)] S (rz_mk h ι, w) = rg Z d rx_m76 39 [l0, l1, l2, l3, some (.int x)] (.int x :: S) (rz_mk h ι, w) := rz_s1 fun _ => rfl
theorem g76_39 (c : rz_ar h a 0) (hi : rz_ix x (rz_ln h a)) : rg Z d rx_m76 39 L (.int x :: .ref a :: S) (rz_mk h ι, w) = rg Z d rx_m76 40 L (.int (ι a x.toNatClampNeg) :: S) (rz_mk h ι, w) := rz_iald rfl c hi
theorem g76_40 : rg Z d rx_m76 40 [some (.ref a), l1, l2, l3, l4] S (rz_mk h ι, w) = rg Z d rx_m76 41 [some (.ref a), l1, l2, l3, l4] (.ref a :: S) (rz_mk h ι, w) := rz_s1 fun _ => rfl
theorem g76_41 (c : rz_fR h a 8 1) : rg Z d rx_m76 41 L (.ref a :: S) (rz_mk h ι, w) = rg Z d rx_m76 44 L (rz_rv h a 1 :: S) (rz_mk h ι, w) := rz_gR rfl (by decide) c
theorem g76_44 : rg Z d rx_m76 44 [l0, l1, l2, l3, some (.int x)] S (rz_mk h ι, w) = rg Z d rx_m76 46 [l0, l1, l2, l3, some (.int x)] (.int x :: S) (rz_mk h ι, w) := rz_s1 fun _ => rfl
theorem g76_46 (c : rz_ar h a 0) (hi : rz_ix x (rz_ln h a)) : rg Z d rx_m76 46 L (.int x :: .ref a :: S) (rz_mk h ι, w) = rg Z d rx_m76 47 L (.int (ι a x.toNatClampNeg) :: S) (rz_mk h ι, w) := rz_iald rfl c hi
theorem g76_47 : rg Z d rx_m76 47 L (.int y :: .int x :: S) (rz_mk h ι, w) = if x = y then rg Z d rx_m76 50 L S (rz_mk h ι, w) else rg Z d rx_m76 54 L S (rz_mk h ι, w) := rz_if2 (pc := 47) (t := 54) (off := 7) (cc := .ne) (by decide) rfl
theorem g76_50 : rg Z d rx_m76 50 L S (rz_mk h ι, w) = rg Z d rx_m76 51 L (.int 0 :: S) (rz_mk h ι, w) := rz_s1 fun _ => rfl
theorem g76_51 : rg Z d rx_m76 51 L S (rz_mk h ι, w) = rg Z d rx_m76 55 L S (rz_mk h ι, w) := rz_s1 fun _ => rfl
theorem g76_54 : rg Z d rx_m76 54 L S (rz_mk h ι, w) = rg Z d rx_m76 55 L (.int 1 :: S) (rz_mk h ι, w) := rz_s1 fun _ => rfl
theorem g76_55 : rg Z d rx_m76 55 L (.int y :: .int x :: S) (rz_mk h ι, w) = rg Z d rx_m76 56 L (.int (x + y) :: S) (rz_mk h ι, w) := rz_s1 fun _ => rfl
theorem g76_56 : rg Z d rx_m76 56 [l0, l1, some (.int z), l3, l4] (.int x :: S) (rz_mk h ι, w) = rg Z d rx_m76 57 [l0, l1, some (.int z), some (.int x), l4] S (rz_mk h ι, w) := rz_s1 fun _ => rfl
theorem g76_57 : rg Z d rx_m76 57 [l0, l1, l2, some (.int z), some (.int x)] S (rz_mk h ι, w) = rg Z d rx_m76 60 [l0, l1, l2, some (.int z), some (.int (x + 1))] S (rz_mk h ι, w) := rz_s1 fun _ => rfl
theorem g76_60 : rg Z d rx_m76 60 L S (rz_mk h ι, w) = rg Z d rx_m76 9 L S (rz_mk h ι, w) := rz_s1 fun _ => rfl
theorem g76_63 : rg Z d rx_m76 63 [l0, l1, l2, some (.int x), l4] S (rz_mk h ι, w) = rg Z d rx_m76 64 [l0, l1, l2, some (.int x), l4] (.int x :: S) (rz_mk h ι, w) := rz_s1 fun _ => rfl
theorem g76_64 : rg Z d rx_m76 64 L [.int x] (rz_mk h ι, w) = some (.inl (some (.int x)), (rz_mk h ι, w)) := rz_reti rfl rfl rfl
theorem e76 : rz_f Z (d + 1) 76 [.ref t0, .int s1] σ = rg Z d rx_m76 0 [some (.ref t0), some (.int s1), none, none, none] [] σ := rz_f_eq rfl (Nat.le_of_ble_eq_true rfl)
theorem g77_0 : rg Z d rx_m77 0 L S (rz_mk h ι, w) = rg Z d rx_m77 1 L (.int 0 :: S) (rz_mk h ι, w) := rz_s1 fun _ => rfl
theorem g77_1 : rg Z d rx_m77 1 [some (.ref b), l1, l2] (.int x :: S) (rz_mk h ι, w) = rg Z d rx_m77 2 [some (.ref b), some (.int x), l2] S (rz_mk h ι, w) := rz_s1 fun _ => rfl
theorem g77_2 : rg Z d rx_m77 2 L S (rz_mk h ι, w) = rg Z d rx_m77 3 L (.int 0 :: S) (rz_mk h ι, w) := rz_s1 fun _ => rfl
theorem g77_3 : rg Z d rx_m77 3 [l0, some (.int z), l2] (.int x :: S) (rz_mk h ι, w) = rg Z d rx_m77 4 [l0, some (.int z), some (.int x)] S (rz_mk h ι, w) := rz_s1 fun _ => rfl
theorem g77_4 : rg Z d rx_m77 4 [l0, l1, some (.int x)] S (rz_mk h ι, w) = rg Z d rx_m77 5 [l0, l1, some (.int x)] (.int x :: S) (rz_mk h ι, w) := rz_s1 fun _ => rfl
theorem g77_5 : rg Z d rx_m77 5 [some (.ref a), l1, l2] S (rz_mk h ι, w) = rg Z d rx_m77 6 [some (.ref a), l1, l2] (.ref a :: S) (rz_mk h ι, w) := rz_s1 fun _ => rfl
theorem g77_6 (c : rz_fI h a 8 3) : rg Z d rx_m77 6 L (.ref a :: S) (rz_mk h ι, w) = rg Z d rx_m77 9 L (.int (ι a 3) :: S) (rz_mk h ι, w) := rz_gI rfl (by decide) c
theorem g77_9 : rg Z d rx_m77 9 L (.int y :: .int x :: S) (rz_mk h ι, w) = if x < y then rg Z d rx_m77 12 L S (rz_mk h ι, w) else rg Z d rx_m77 36 L S (rz_mk h ι, w) := rz_if2 (pc := 9) (t := 36) (off := 27) (cc := .ge) (by decide) rfl
theorem g77_12 : rg Z d rx_m77 12 [l0, some (.int x), l2] S (rz_mk h ι, w) = rg Z d rx_m77 13 [l0, some (.int x), l2] (.int x :: S) (rz_mk h ι, w) := rz_s1 fun _ => rfl
theorem g77_13 : rg Z d rx_m77 13 [some (.ref a), l1, l2] S (rz_mk h ι, w) = rg Z d rx_m77 14 [some (.ref a), l1, l2] (.ref a :: S) (rz_mk h ι, w) := rz_s1 fun _ => rfl
theorem g77_14 : rg Z d rx_m77 14 [l0, l1, some (.int x)] S (rz_mk h ι, w) = rg Z d rx_m77 15 [l0, l1, some (.int x)] (.int x :: S) (rz_mk h ι, w) := rz_s1 fun _ => rfl
theorem g77_15 (c : rz_oc h a 8) : rg Z d rx_m77 15 L (v1 :: .ref a :: [.int s0]) (rz_mk h ι, w) = rz_k true (rz_f Z d 75 [.ref a, v1] (rz_mk h ι, w)) (fun v σ' => rg Z d rx_m77 18 L (v.toList ++ [.int s0]) σ') := rz_cv (pc := 15) (n := 1) (mi := 75) (S := v1 :: .ref a :: [.int s0]) (rest := [.int s0]) rfl rfl (Nat.le_of_ble_eq_true rfl) (Nat.le_of_ble_eq_true rfl) c
theorem g77_18 : rg Z d rx_m77 18 L (.int x :: S) (rz_mk h ι, w) = if x = 0 then rg Z d rx_m77 21 L S (rz_mk h ι, w) else rg Z d rx_m77 25 L S (rz_mk h ι, w) := rz_if1 (pc := 18) (t := 25) (off := 7) (cc := .ne) (by decide) rfl
theorem g77_21 : rg Z d rx_m77 21 L S (rz_mk h ι, w) = rg Z d rx_m77 22 L (.int 0 :: S) (rz_mk h ι, w) := rz_s1 fun _ => rfl
theorem g77_22 : rg Z d rx_m77 22 L S (rz_mk h ι, w) = rg Z d rx_m77 28 L S (rz_mk h ι, w) := rz_s1 fun _ => rfl
theorem g77_25 : rg Z d rx_m77 25 L S (rz_mk h ι, w) = rg Z d rx_m77 26 L (.int 1 :: S) (rz_mk h ι, w) := rz_s1 fun _ => rfl
theorem g77_26 : rg Z d rx_m77 26 [l0, l1, some (.int x)] S (rz_mk h ι, w) = rg Z d rx_m77 27 [l0, l1, some (.int x)] (.int x :: S) (rz_mk h ι, w) := rz_s1 fun _ => rfl
theorem g77_27 : rg Z d rx_m77 27 L (.int y :: .int x :: S) (rz_mk h ι, w) = rg Z d rx_m77 28 L (.int (x <<< (y &&& 31)) :: S) (rz_mk h ι, w) := rz_s1 fun _ => rfl
theorem g77_28 : rg Z d rx_m77 28 L (.int y :: .int x :: S) (rz_mk h ι, w) = rg Z d rx_m77 29 L (.int (x ||| y) :: S) (rz_mk h ι, w) := rz_s1 fun _ => rfl
theorem g77_29 : rg Z d rx_m77 29 [some (.ref b), l1, l2] (.int x :: S) (rz_mk h ι, w) = rg Z d rx_m77 30 [some (.ref b), some (.int x), l2] S (rz_mk h ι, w) := rz_s1 fun _ => rfl
theorem g77_30 : rg Z d rx_m77 30 [l0, some (.int z), some (.int x)] S (rz_mk h ι, w) = rg Z d rx_m77 33 [l0, some (.int z), some (.int (x + 1))] S (rz_mk h ι, w) := rz_s1 fun _ => rfl
theorem g77_33 : rg Z d rx_m77 33 L S (rz_mk h ι, w) = rg Z d rx_m77 4 L S (rz_mk h ι, w) := rz_s1 fun _ => rfl
theorem g77_36 : rg Z d rx_m77 36 [l0, some (.int x), l2] S (rz_mk h ι, w) = rg Z d rx_m77 37 [l0, some (.int x), l2] (.int x :: S) (rz_mk h ι, w) := rz_s1 fun _ => rfl
theorem g77_37 : rg Z d rx_m77 37 L [.int x] (rz_mk h ι, w) = some (.inl (some (.int x)), (rz_mk h ι, w)) := rz_reti rfl rfl rfl
theorem e77 : rz_f Z (d + 1) 77 [.ref t0] σ = rg Z d rx_m77 0 [some (.ref t0), none, none] [] σ := rz_f_eq rfl (Nat.le_of_ble_eq_true rfl)
theorem g78_0 : rg Z d rx_m78 0 [some (.ref a), l1, l2, l3] S (rz_mk h ι, w) = rg Z d rx_m78 1 [some (.ref a), l1, l2, l3] (.ref a :: S) (rz_mk h ι, w) := rz_s1 fun _ => rfl
theorem g78_1 : rg Z d rx_m78 1 [l0, some (.int x), l2, l3] S (rz_mk h ι, w) = rg Z d rx_m78 2 [l0, some (.int x), l2, l3] (.int x :: S) (rz_mk h ι, w) := rz_s1 fun _ => rfl
theorem g78_2 : rg Z d rx_m78 2 [l0, l1, l2, some (.int x)] S (rz_mk h ι, w) = rg Z d rx_m78 3 [l0, l1, l2, some (.int x)] (.int x :: S) (rz_mk h ι, w) := rz_s1 fun _ => rfl
theorem g78_3 (c : rz_oc h a 8) : rg Z d rx_m78 3 L (v2 :: v1 :: .ref a :: []) (rz_mk h ι, w) = rz_k true (rz_f Z d 71 [.ref a, v1, v2] (rz_mk h ι, w)) (fun v σ' => rg Z d rx_m78 6 L (v.toList ++ []) σ') := rz_cv (pc := 3) (n := 2) (mi := 71) (S := v2 :: v1 :: .ref a :: []) (rest := []) rfl rfl (Nat.le_of_ble_eq_true rfl) (Nat.le_of_ble_eq_true rfl) c
theorem g78_6 : rg Z d rx_m78 6 [some (.ref a), l1, l2, l3] S (rz_mk h ι, w) = rg Z d rx_m78 7 [some (.ref a), l1, l2, l3] (.ref a :: S) (rz_mk h ι, w) := rz_s1 fun _ => rfl
theorem g78_7 : rg Z d rx_m78 7 [l0, l1, some (.int x), l3] S (rz_mk h ι, w) = rg Z d rx_m78 8 [l0, l1, some (.int x), l3] (.int x :: S) (rz_mk h ι, w) := rz_s1 fun _ => rfl
theorem g78_8 : rg Z d rx_m78 8 [l0, l1, l2, some (.int x)] S (rz_mk h ι, w) = rg Z d rx_m78 9 [l0, l1, l2, some (.int x)] (.int x :: S) (rz_mk h ι, w) := rz_s1 fun _ => rfl
theorem g78_9 (c : rz_oc h a 8) : rg Z d rx_m78 9 L (v2 :: v1 :: .ref a :: [.int s0]) (rz_mk h ι, w) = rz_k true (rz_f Z d 71 [.ref a, v1, v2] (rz_mk h ι, w)) (fun v σ' => rg Z d rx_m78 12 L (v.toList ++ [.int s0]) σ') := rz_cv (pc := 9) (n := 2) (mi := 71) (S := v2 :: v1 :: .ref a :: [.int s0]) (rest := [.int s0]) rfl rfl (Nat.le_of_ble_eq_true rfl) (Nat.le_of_ble_eq_true rfl) c
theorem g78_12 : rg Z d rx_m78 12 L (.int y :: .int x :: S) (rz_mk h ι, w) = rg Z d rx_m78 13 L (.int (x + y) :: S) (rz_mk h ι, w) := rz_s1 fun _ => rfl
theorem g78_13 : rg Z d rx_m78 13 L S (rz_mk h ι, w) = rg Z d rx_m78 14 L (.int 2 :: S) (rz_mk h ι, w) := rz_s1 fun _ => rfl
theorem g78_14 : rg Z d rx_m78 14 L (.int 2 :: .int x :: S) (rz_mk h ι, w) = rg Z d rx_m78 15 L (.int (x / 2) :: S) (rz_mk h ι, w) := rz_div rfl (by decide)
theorem g78_15 : rg Z d rx_m78 15 L [.int x] (rz_mk h ι, w) = some (.inl (some (.int x)), (rz_mk h ι, w)) := rz_reti rfl rfl rfl
theorem e78 : rz_f Z (d + 1) 78 [.ref t0, .int s1, .int s2, .int s3] σ = rg Z d rx_m78 0 [some (.ref t0), some (.int s1), some (.int s2), some (.int s3)] [] σ := rz_f_eq rfl (Nat.le_of_ble_eq_true rfl)
theorem g79_0 : rg Z d rx_m79 0 [some (.ref a), l1, l2, l3, l4, l5] S (rz_mk h ι, w) = rg Z d rx_m79 1 [some (.ref a), l1, l2, l3, l4, l5] (.ref a :: S) (rz_mk h ι, w) := rz_s1 fun _ => rfl
theorem g79_1 (c : rz_fI h a 8 3) : rg Z d rx_m79 1 L (.ref a :: S) (rz_mk h ι, w) = rg Z d rx_m79 4 L (.int (ι a 3) :: S) (rz_mk h ι, w) := rz_gI rfl (by decide) c
theorem g79_4 : rg Z d rx_m79 4 L (.int x :: S) (rz_mk h ι, w) = if x < 0 then rg Z d rx_m79 16 L S (rz_mk h ι, w) else rg Z d rx_m79 7 L S (rz_mk h ι, w) := rz_if1 (pc := 4) (t := 16) (off := 12) (cc := .lt) (by decide) rfl
theorem g79_7 : rg Z d rx_m79 7 [some (.ref a), l1, l2, l3, l4, l5] S (rz_mk h ι, w) = rg Z d rx_m79 8 [some (.ref a), l1, l2, l3, l4, l5] (.ref a :: S) (rz_mk h ι, w) := rz_s1 fun _ => rfl
theorem g79_8 (c : rz_fI h a 8 3) : rg Z d rx_m79 8 L (.ref a :: S) (rz_mk h ι, w) = rg Z d rx_m79 11 L (.int (ι a 3) :: S) (rz_mk h ι, w) := rz_gI rfl (by decide) c
theorem g79_11 : rg Z d rx_m79 11 L S (rz_mk h ι, w) = rg Z d rx_m79 13 L (.int 8 :: S) (rz_mk h ι, w) := rz_s1 fun _ => rfl
theorem g79_13 : rg Z d rx_m79 13 L (.int y :: .int x :: S) (rz_mk h ι, w) = if x < y then rg Z d rx_m79 18 L S (rz_mk h ι, w) else rg Z d rx_m79 16 L S (rz_mk h ι, w) := rz_if2 (pc := 13) (t := 18) (off := 5) (cc := .lt) (by decide) rfl
theorem g79_16 : rg Z d rx_m79 16 L S (rz_mk h ι, w) = rg Z d rx_m79 17 L (.int 0 :: S) (rz_mk h ι, w) := rz_s1 fun _ => rfl
theorem g79_17 (c : narrow .boolean (.int x) = .int x) : rg Z d rx_m79 17 L [.int x] (rz_mk h ι, w) = some (.inl (some (.int x)), (rz_mk h ι, w)) := rz_reti rfl rfl c
theorem g79_18 : rg Z d rx_m79 18 [some (.ref a), l1, l2, l3, l4, l5] S (rz_mk h ι, w) = rg Z d rx_m79 19 [some (.ref a), l1, l2, l3, l4, l5] (.ref a :: S) (rz_mk h ι, w) := rz_s1 fun _ => rfl
theorem g79_19 (c : rz_fI h a 8 3) : rg Z d rx_m79 19 L (.ref a :: S) (rz_mk h ι, w) = rg Z d rx_m79 22 L (.int (ι a 3) :: S) (rz_mk h ι, w) := rz_gI rfl (by decide) c
theorem g79_22 : rg Z d rx_m79 22 [l0, l1, l2, l3, some (.int z), l5] (.int x :: S) (rz_mk h ι, w) = rg Z d rx_m79 24 [l0, l1, l2, l3, some (.int z), some (.int x)] S (rz_mk h ι, w) := rz_s1 fun _ => rfl
theorem g79_24 : rg Z d rx_m79 24 [some (.ref a), l1, l2, l3, l4, l5] S (rz_mk h ι, w) = rg Z d rx_m79 25 [some (.ref a), l1, l2, l3, l4, l5] (.ref a :: S) (rz_mk h ι, w) := rz_s1 fun _ => rfl
theorem g79_25 : rg Z d rx_m79 25 L (.ref a :: S) (rz_mk h ι, w) = rg Z d rx_m79 26 L (.ref a :: .ref a :: S) (rz_mk h ι, w) := rz_s1 fun _ => rfl
theorem g79_26 (c : rz_fI h a 8 3) : rg Z d rx_m79 26 L (.ref a :: S) (rz_mk h ι, w) = rg Z d rx_m79 29 L (.int (ι a 3) :: S) (rz_mk h ι, w) := rz_gI rfl (by decide) c
theorem g79_29 : rg Z d rx_m79 29 L S (rz_mk h ι, w) = rg Z d rx_m79 30 L (.int 1 :: S) (rz_mk h ι, w) := rz_s1 fun _ => rfl
theorem g79_30 : rg Z d rx_m79 30 L (.int y :: .int x :: S) (rz_mk h ι, w) = rg Z d rx_m79 31 L (.int (x + y) :: S) (rz_mk h ι, w) := rz_s1 fun _ => rfl
theorem g79_31 (c : rz_fI h a 8 3) (hz : Z.2.1 ≤ a) : rg Z d rx_m79 31 L (.int x :: .ref a :: S) (rz_mk h ι, w) = rg Z d rx_m79 34 L S (rz_mk h (rz_up ι a 3 x), w) := rz_pI rfl c hz
theorem g79_34 : rg Z d rx_m79 34 [some (.ref a), l1, l2, l3, l4, l5] S (rz_mk h ι, w) = rg Z d rx_m79 35 [some (.ref a), l1, l2, l3, l4, l5] (.ref a :: S) (rz_mk h ι, w) := rz_s1 fun _ => rfl
theorem g79_35 : rg Z d rx_m79 35 L (.ref a :: S) (rz_mk h ι, w) = rg Z d rx_m79 36 L (.ref a :: .ref a :: S) (rz_mk h ι, w) := rz_s1 fun _ => rfl
theorem g79_36 (c : rz_fI h a 8 4) : rg Z d rx_m79 36 L (.ref a :: S) (rz_mk h ι, w) = rg Z d rx_m79 39 L (.int (ι a 4) :: S) (rz_mk h ι, w) := rz_gI rfl (by decide) c
theorem g79_39 : rg Z d rx_m79 39 L S (rz_mk h ι, w) = rg Z d rx_m79 40 L (.int 1 :: S) (rz_mk h ι, w) := rz_s1 fun _ => rfl
theorem g79_40 : rg Z d rx_m79 40 [l0, l1, l2, l3, l4, some (.int x)] S (rz_mk h ι, w) = rg Z d rx_m79 42 [l0, l1, l2, l3, l4, some (.int x)] (.int x :: S) (rz_mk h ι, w) := rz_s1 fun _ => rfl
theorem g79_42 : rg Z d rx_m79 42 L (.int y :: .int x :: S) (rz_mk h ι, w) = rg Z d rx_m79 43 L (.int (x <<< (y &&& 31)) :: S) (rz_mk h ι, w) := rz_s1 fun _ => rfl
theorem g79_43 : rg Z d rx_m79 43 L (.int y :: .int x :: S) (rz_mk h ι, w) = rg Z d rx_m79 44 L (.int (x ||| y) :: S) (rz_mk h ι, w) := rz_s1 fun _ => rfl
theorem g79_44 (c : rz_fI h a 8 4) (hz : Z.2.1 ≤ a) : rg Z d rx_m79 44 L (.int x :: .ref a :: S) (rz_mk h ι, w) = rg Z d rx_m79 47 L S (rz_mk h (rz_up ι a 4 x), w) := rz_pI rfl c hz
theorem g79_47 : rg Z d rx_m79 47 [some (.ref a), l1, l2, l3, l4, l5] S (rz_mk h ι, w) = rg Z d rx_m79 48 [some (.ref a), l1, l2, l3, l4, l5] (.ref a :: S) (rz_mk h ι, w) := rz_s1 fun _ => rfl
theorem g79_48 (c : rz_fR h a 8 2) : rg Z d rx_m79 48 L (.ref a :: S) (rz_mk h ι, w) = rg Z d rx_m79 51 L (rz_rv h a 2 :: S) (rz_mk h ι, w) := rz_gR rfl (by decide) c
theorem g79_51 : rg Z d rx_m79 51 [l0, l1, l2, l3, l4, some (.int x)] S (rz_mk h ι, w) = rg Z d rx_m79 53 [l0, l1, l2, l3, l4, some (.int x)] (.int x :: S) (rz_mk h ι, w) := rz_s1 fun _ => rfl
theorem g79_53 : rg Z d rx_m79 53 [l0, l1, l2, l3, some (.int x), l5] S (rz_mk h ι, w) = rg Z d rx_m79 55 [l0, l1, l2, l3, some (.int x), l5] (.int x :: S) (rz_mk h ι, w) := rz_s1 fun _ => rfl
theorem g79_55 (c : rz_ar h a 0) (hi : rz_ix x (rz_ln h a)) (hz : Z.2.1 ≤ a) : rg Z d rx_m79 55 L (.int y :: .int x :: .ref a :: S) (rz_mk h ι, w) = rg Z d rx_m79 56 L S (rz_mk h (rz_up ι a x.toNatClampNeg y), w) := rz_iast rfl c hi hz
theorem g79_56 : rg Z d rx_m79 56 [some (.ref a), l1, l2, l3, l4, l5] S (rz_mk h ι, w) = rg Z d rx_m79 57 [some (.ref a), l1, l2, l3, l4, l5] (.ref a :: S) (rz_mk h ι, w) := rz_s1 fun _ => rfl
theorem g79_57 (c : rz_fR h a 8 0) : rg Z d rx_m79 57 L (.ref a :: S) (rz_mk h ι, w) = rg Z d rx_m79 60 L (rz_rv h a 0 :: S) (rz_mk h ι, w) := rz_gR rfl (by decide) c
theorem g79_60 : rg Z d rx_m79 60 [l0, l1, l2, l3, l4, some (.int x)] S (rz_mk h ι, w) = rg Z d rx_m79 62 [l0, l1, l2, l3, l4, some (.int x)] (.int x :: S) (rz_mk h ι, w) := rz_s1 fun _ => rfl
theorem g79_62 : rg Z d rx_m79 62 L S (rz_mk h ι, w) = rg Z d rx_m79 63 L (.int 3 :: S) (rz_mk h ι, w) := rz_s1 fun _ => rfl
theorem g79_63 : rg Z d rx_m79 63 L (.int y :: .int x :: S) (rz_mk h ι, w) = rg Z d rx_m79 64 L (.int (x * y) :: S) (rz_mk h ι, w) := rz_s1 fun _ => rfl
theorem g79_64 : rg Z d rx_m79 64 [l0, some (.int x), l2, l3, l4, l5] S (rz_mk h ι, w) = rg Z d rx_m79 65 [l0, some (.int x), l2, l3, l4, l5] (.int x :: S) (rz_mk h ι, w) := rz_s1 fun _ => rfl
theorem g79_65 (c : rz_ar h a 0) (hi : rz_ix x (rz_ln h a)) (hz : Z.2.1 ≤ a) : rg Z d rx_m79 65 L (.int y :: .int x :: .ref a :: S) (rz_mk h ι, w) = rg Z d rx_m79 66 L S (rz_mk h (rz_up ι a x.toNatClampNeg y), w) := rz_iast rfl c hi hz
theorem g79_66 : rg Z d rx_m79 66 [some (.ref a), l1, l2, l3, l4, l5] S (rz_mk h ι, w) = rg Z d rx_m79 67 [some (.ref a), l1, l2, l3, l4, l5] (.ref a :: S) (rz_mk h ι, w) := rz_s1 fun _ => rfl
theorem g79_67 (c : rz_fR h a 8 0) : rg Z d rx_m79 67 L (.ref a :: S) (rz_mk h ι, w) = rg Z d rx_m79 70 L (rz_rv h a 0 :: S) (rz_mk h ι, w) := rz_gR rfl (by decide) c
theorem g79_70 : rg Z d rx_m79 70 [l0, l1, l2, l3, l4, some (.int x)] S (rz_mk h ι, w) = rg Z d rx_m79 72 [l0, l1, l2, l3, l4, some (.int x)] (.int x :: S) (rz_mk h ι, w) := rz_s1 fun _ => rfl
theorem g79_72 : rg Z d rx_m79 72 L S (rz_mk h ι, w) = rg Z d rx_m79 73 L (.int 3 :: S) (rz_mk h ι, w) := rz_s1 fun _ => rfl
theorem g79_73 : rg Z d rx_m79 73 L (.int y :: .int x :: S) (rz_mk h ι, w) = rg Z d rx_m79 74 L (.int (x * y) :: S) (rz_mk h ι, w) := rz_s1 fun _ => rfl
theorem g79_74 : rg Z d rx_m79 74 L S (rz_mk h ι, w) = rg Z d rx_m79 75 L (.int 1 :: S) (rz_mk h ι, w) := rz_s1 fun _ => rfl
theorem g79_75 : rg Z d rx_m79 75 L (.int y :: .int x :: S) (rz_mk h ι, w) = rg Z d rx_m79 76 L (.int (x + y) :: S) (rz_mk h ι, w) := rz_s1 fun _ => rfl
theorem g79_76 : rg Z d rx_m79 76 [l0, l1, some (.int x), l3, l4, l5] S (rz_mk h ι, w) = rg Z d rx_m79 77 [l0, l1, some (.int x), l3, l4, l5] (.int x :: S) (rz_mk h ι, w) := rz_s1 fun _ => rfl
theorem g79_77 (c : rz_ar h a 0) (hi : rz_ix x (rz_ln h a)) (hz : Z.2.1 ≤ a) : rg Z d rx_m79 77 L (.int y :: .int x :: .ref a :: S) (rz_mk h ι, w) = rg Z d rx_m79 78 L S (rz_mk h (rz_up ι a x.toNatClampNeg y), w) := rz_iast rfl c hi hz
theorem g79_78 : rg Z d rx_m79 78 [some (.ref a), l1, l2, l3, l4, l5] S (rz_mk h ι, w) = rg Z d rx_m79 79 [some (.ref a), l1, l2, l3, l4, l5] (.ref a :: S) (rz_mk h ι, w) := rz_s1 fun _ => rfl
theorem g79_79 (c : rz_fR h a 8 0) : rg Z d rx_m79 79 L (.ref a :: S) (rz_mk h ι, w) = rg Z d rx_m79 82 L (rz_rv h a 0 :: S) (rz_mk h ι, w) := rz_gR rfl (by decide) c
theorem g79_82 : rg Z d rx_m79 82 [l0, l1, l2, l3, l4, some (.int x)] S (rz_mk h ι, w) = rg Z d rx_m79 84 [l0, l1, l2, l3, l4, some (.int x)] (.int x :: S) (rz_mk h ι, w) := rz_s1 fun _ => rfl
theorem g79_84 : rg Z d rx_m79 84 L S (rz_mk h ι, w) = rg Z d rx_m79 85 L (.int 3 :: S) (rz_mk h ι, w) := rz_s1 fun _ => rfl
theorem g79_85 : rg Z d rx_m79 85 L (.int y :: .int x :: S) (rz_mk h ι, w) = rg Z d rx_m79 86 L (.int (x * y) :: S) (rz_mk h ι, w) := rz_s1 fun _ => rfl
theorem g79_86 : rg Z d rx_m79 86 L S (rz_mk h ι, w) = rg Z d rx_m79 87 L (.int 2 :: S) (rz_mk h ι, w) := rz_s1 fun _ => rfl
theorem g79_87 : rg Z d rx_m79 87 L (.int y :: .int x :: S) (rz_mk h ι, w) = rg Z d rx_m79 88 L (.int (x + y) :: S) (rz_mk h ι, w) := rz_s1 fun _ => rfl
theorem g79_88 : rg Z d rx_m79 88 [l0, l1, l2, some (.int x), l4, l5] S (rz_mk h ι, w) = rg Z d rx_m79 89 [l0, l1, l2, some (.int x), l4, l5] (.int x :: S) (rz_mk h ι, w) := rz_s1 fun _ => rfl
theorem g79_89 (c : rz_ar h a 0) (hi : rz_ix x (rz_ln h a)) (hz : Z.2.1 ≤ a) : rg Z d rx_m79 89 L (.int y :: .int x :: .ref a :: S) (rz_mk h ι, w) = rg Z d rx_m79 90 L S (rz_mk h (rz_up ι a x.toNatClampNeg y), w) := rz_iast rfl c hi hz
theorem g79_90 : rg Z d rx_m79 90 [some (.ref a), l1, l2, l3, l4, l5] S (rz_mk h ι, w) = rg Z d rx_m79 91 [some (.ref a), l1, l2, l3, l4, l5] (.ref a :: S) (rz_mk h ι, w) := rz_s1 fun _ => rfl
theorem g79_91 (c : rz_fR h a 8 0) : rg Z d rx_m79 91 L (.ref a :: S) (rz_mk h ι, w) = rg Z d rx_m79 94 L (rz_rv h a 0 :: S) (rz_mk h ι, w) := rz_gR rfl (by decide) c
theorem g79_94 : rg Z d rx_m79 94 [l0, l1, l2, l3, l4, some (.int x)] S (rz_mk h ι, w) = rg Z d rx_m79 96 [l0, l1, l2, l3, l4, some (.int x)] (.int x :: S) (rz_mk h ι, w) := rz_s1 fun _ => rfl
theorem g79_96 : rg Z d rx_m79 96 L S (rz_mk h ι, w) = rg Z d rx_m79 97 L (.int 3 :: S) (rz_mk h ι, w) := rz_s1 fun _ => rfl
theorem g79_97 : rg Z d rx_m79 97 L (.int y :: .int x :: S) (rz_mk h ι, w) = rg Z d rx_m79 98 L (.int (x * y) :: S) (rz_mk h ι, w) := rz_s1 fun _ => rfl
theorem g79_98 : rg Z d rx_m79 98 [some (.ref a), l1, l2, l3, l4, l5] S (rz_mk h ι, w) = rg Z d rx_m79 99 [some (.ref a), l1, l2, l3, l4, l5] (.ref a :: S) (rz_mk h ι, w) := rz_s1 fun _ => rfl
theorem g79_99 (c : rz_fR h a 8 1) : rg Z d rx_m79 99 L (.ref a :: S) (rz_mk h ι, w) = rg Z d rx_m79 102 L (rz_rv h a 1 :: S) (rz_mk h ι, w) := rz_gR rfl (by decide) c
theorem g79_102 : rg Z d rx_m79 102 [l0, l1, l2, l3, l4, some (.int x)] S (rz_mk h ι, w) = rg Z d rx_m79 104 [l0, l1, l2, l3, l4, some (.int x)] (.int x :: S) (rz_mk h ι, w) := rz_s1 fun _ => rfl
theorem g79_104 : rg Z d rx_m79 104 L S (rz_mk h ι, w) = rg Z d rx_m79 105 L (.int 3 :: S) (rz_mk h ι, w) := rz_s1 fun _ => rfl
theorem g79_105 : rg Z d rx_m79 105 L (.int y :: .int x :: S) (rz_mk h ι, w) = rg Z d rx_m79 106 L (.int (x * y) :: S) (rz_mk h ι, w) := rz_s1 fun _ => rfl
theorem g79_106 : rg Z d rx_m79 106 L S (rz_mk h ι, w) = rg Z d rx_m79 107 L (.int 3 :: S) (rz_mk h ι, w) := rz_s1 fun _ => rfl
theorem g79_107 (ha : rz_ar h a 0) (hb : rz_ar h b 0) (hz : Z.2.1 ≤ b) (h1 : ¬ z < 0) (h2 : ¬ y < 0) (h3 : ¬ x < 0) (h4 : z.toNatClampNeg + x.toNatClampNeg ≤ rz_ln h a) (h5 : y.toNatClampNeg + x.toNatClampNeg ≤ rz_ln h b) : rg Z d rx_m79 107 L (.int x :: .int y :: .ref b :: .int z :: .ref a :: []) (rz_mk h ι, w) = rg Z d rx_m79 110 L [] (rz_mk h (rz_cp ι a b z.toNatClampNeg y.toNatClampNeg x.toNatClampNeg), w) := rz_acp rfl (Nat.le_of_ble_eq_true rfl) ha hb hz h1 h2 h3 h4 h5
theorem g79_110 : rg Z d rx_m79 110 L S (rz_mk h ι, w) = rg Z d rx_m79 111 L (.int 1 :: S) (rz_mk h ι, w) := rz_s1 fun _ => rfl
theorem g79_111 (c : narrow .boolean (.int x) = .int x) : rg Z d rx_m79 111 L [.int x] (rz_mk h ι, w) = some (.inl (some (.int x)), (rz_mk h ι, w)) := rz_reti rfl rfl c
theorem e79 : rz_f Z (d + 1) 79 [.ref t0, .int s1, .int s2, .int s3, .int s4] σ = rg Z d rx_m79 0 [some (.ref t0), some (.int s1), some (.int s2), some (.int s3), some (.int s4), none] [] σ := rz_f_eq rfl (Nat.le_of_ble_eq_true rfl)
theorem g80_0 : rg Z d rx_m80 0 [some (.ref a), l1] S (rz_mk h ι, w) = rg Z d rx_m80 1 [some (.ref a), l1] (.ref a :: S) (rz_mk h ι, w) := rz_s1 fun _ => rfl
theorem g80_1 : rg Z d rx_m80 1 [l0, some (.int x)] S (rz_mk h ι, w) = rg Z d rx_m80 2 [l0, some (.int x)] (.int x :: S) (rz_mk h ι, w) := rz_s1 fun _ => rfl
theorem g80_2 (c : rz_fI h a 8 5) (hz : Z.2.1 ≤ a) : rg Z d rx_m80 2 L (.int x :: .ref a :: S) (rz_mk h ι, w) = rg Z d rx_m80 5 L S (rz_mk h (rz_up ι a 5 x), w) := rz_pI rfl c hz
theorem g80_5 : rg Z d rx_m80 5 [some (.ref a), l1] S (rz_mk h ι, w) = rg Z d rx_m80 6 [some (.ref a), l1] (.ref a :: S) (rz_mk h ι, w) := rz_s1 fun _ => rfl
theorem g80_6 : rg Z d rx_m80 6 L S (rz_mk h ι, w) = rg Z d rx_m80 7 L (.int 0 :: S) (rz_mk h ι, w) := rz_s1 fun _ => rfl
theorem g80_7 (c : rz_fI h a 8 6) (hz : Z.2.1 ≤ a) : rg Z d rx_m80 7 L (.int x :: .ref a :: S) (rz_mk h ι, w) = rg Z d rx_m80 10 L S (rz_mk h (rz_up ι a 6 x), w) := rz_pI rfl c hz
theorem g80_10 : rg Z d rx_m80 10 [some (.ref a), l1] S (rz_mk h ι, w) = rg Z d rx_m80 11 [some (.ref a), l1] (.ref a :: S) (rz_mk h ι, w) := rz_s1 fun _ => rfl
theorem g80_11 : rg Z d rx_m80 11 L (.ref a :: S) (rz_mk h ι, w) = rg Z d rx_m80 12 L (.ref a :: .ref a :: S) (rz_mk h ι, w) := rz_s1 fun _ => rfl
theorem g80_12 (c : rz_fI h a 8 8) : rg Z d rx_m80 12 L (.ref a :: S) (rz_mk h ι, w) = rg Z d rx_m80 15 L (.int (ι a 8) :: S) (rz_mk h ι, w) := rz_gI rfl (by decide) c
theorem g80_15 : rg Z d rx_m80 15 [l0, some (.int x)] S (rz_mk h ι, w) = rg Z d rx_m80 16 [l0, some (.int x)] (.int x :: S) (rz_mk h ι, w) := rz_s1 fun _ => rfl
theorem g80_16 : rg Z d rx_m80 16 L S (rz_mk h ι, w) = rg Z d rx_m80 17 L (.int (-1) :: S) (rz_mk h ι, w) := rz_s1 fun _ => rfl
theorem g80_17 : rg Z d rx_m80 17 L (.int y :: .int x :: S) (rz_mk h ι, w) = if x = y then rg Z d rx_m80 20 L S (rz_mk h ι, w) else rg Z d rx_m80 24 L S (rz_mk h ι, w) := rz_if2 (pc := 17) (t := 24) (off := 7) (cc := .ne) (by decide) rfl
theorem g80_20 : rg Z d rx_m80 20 L S (rz_mk h ι, w) = rg Z d rx_m80 21 L (.int 0 :: S) (rz_mk h ι, w) := rz_s1 fun _ => rfl
theorem g80_21 : rg Z d rx_m80 21 L S (rz_mk h ι, w) = rg Z d rx_m80 25 L S (rz_mk h ι, w) := rz_s1 fun _ => rfl
theorem g80_24 : rg Z d rx_m80 24 L S (rz_mk h ι, w) = rg Z d rx_m80 25 L (.int 1 :: S) (rz_mk h ι, w) := rz_s1 fun _ => rfl
theorem g80_25 : rg Z d rx_m80 25 L (.int y :: .int x :: S) (rz_mk h ι, w) = rg Z d rx_m80 26 L (.int (x + y) :: S) (rz_mk h ι, w) := rz_s1 fun _ => rfl
theorem g80_26 (c : rz_fI h a 8 8) (hz : Z.2.1 ≤ a) : rg Z d rx_m80 26 L (.int x :: .ref a :: S) (rz_mk h ι, w) = rg Z d rx_m80 29 L S (rz_mk h (rz_up ι a 8 x), w) := rz_pI rfl c hz
theorem g80_29 : rg Z d rx_m80 29 L [] (rz_mk h ι, w) = some (.inl none, (rz_mk h ι, w)) := rz_r1 fun _ => rfl
theorem e80 : rz_f Z (d + 1) 80 [.ref t0, .int s1] σ = rg Z d rx_m80 0 [some (.ref t0), some (.int s1)] [] σ := rz_f_eq rfl (Nat.le_of_ble_eq_true rfl)
theorem g81_0 : rg Z d rx_m81 0 [l0, some (.int x), l2, l3, l4] S (rz_mk h ι, w) = rg Z d rx_m81 1 [l0, some (.int x), l2, l3, l4] (.int x :: S) (rz_mk h ι, w) := rz_s1 fun _ => rfl
theorem g81_1 : rg Z d rx_m81 1 L S (rz_mk h ι, w) = rg Z d rx_m81 2 L (.int 3 :: S) (rz_mk h ι, w) := rz_s1 fun _ => rfl
theorem g81_2 : rg Z d rx_m81 2 L (.int y :: .int x :: S) (rz_mk h ι, w) = rg Z d rx_m81 3 L (.int (x * y) :: S) (rz_mk h ι, w) := rz_s1 fun _ => rfl
theorem g81_3 : rg Z d rx_m81 3 [l0, l1, some (.int x), l3, l4] S (rz_mk h ι, w) = rg Z d rx_m81 4 [l0, l1, some (.int x), l3, l4] (.int x :: S) (rz_mk h ι, w) := rz_s1 fun _ => rfl
theorem g81_4 : rg Z d rx_m81 4 L (.int y :: .int x :: S) (rz_mk h ι, w) = rg Z d rx_m81 5 L (.int (x + y) :: S) (rz_mk h ι, w) := rz_s1 fun _ => rfl
theorem g81_5 : rg Z d rx_m81 5 [l0, l1, l2, some (.int z), l4] (.int x :: S) (rz_mk h ι, w) = rg Z d rx_m81 7 [l0, l1, l2, some (.int z), some (.int x)] S (rz_mk h ι, w) := rz_s1 fun _ => rfl
theorem g81_7 : rg Z d rx_m81 7 [some (.ref a), l1, l2, l3, l4] S (rz_mk h ι, w) = rg Z d rx_m81 8 [some (.ref a), l1, l2, l3, l4] (.ref a :: S) (rz_mk h ι, w) := rz_s1 fun _ => rfl
theorem g81_8 : rg Z d rx_m81 8 [l0, some (.int x), l2, l3, l4] S (rz_mk h ι, w) = rg Z d rx_m81 9 [l0, some (.int x), l2, l3, l4] (.int x :: S) (rz_mk h ι, w) := rz_s1 fun _ => rfl
theorem g81_9 (c : rz_oc h a 8) : rg Z d rx_m81 9 L (v1 :: .ref a :: []) (rz_mk h ι, w) = rz_k true (rz_f Z d 68 [.ref a, v1] (rz_mk h ι, w)) (fun v σ' => rg Z d rx_m81 12 L (v.toList ++ []) σ') := rz_cv (pc := 9) (n := 1) (mi := 68) (S := v1 :: .ref a :: []) (rest := []) rfl rfl (Nat.le_of_ble_eq_true rfl) (Nat.le_of_ble_eq_true rfl) c
theorem g81_12 : rg Z d rx_m81 12 L (.int x :: S) (rz_mk h ι, w) = if x = 0 then rg Z d rx_m81 41 L S (rz_mk h ι, w) else rg Z d rx_m81 15 L S (rz_mk h ι, w) := rz_if1 (pc := 12) (t := 41) (off := 29) (cc := .eq) (by decide) rfl
theorem g81_15 : rg Z d rx_m81 15 [l0, l1, l2, l3, some (.int x)] S (rz_mk h ι, w) = rg Z d rx_m81 17 [l0, l1, l2, l3, some (.int x)] (.int x :: S) (rz_mk h ι, w) := rz_s1 fun _ => rfl
theorem g81_17 : rg Z d rx_m81 17 L (.int x :: S) (rz_mk h ι, w) = if x < 0 then rg Z d rx_m81 41 L S (rz_mk h ι, w) else rg Z d rx_m81 20 L S (rz_mk h ι, w) := rz_if1 (pc := 17) (t := 41) (off := 24) (cc := .lt) (by decide) rfl
theorem g81_20 : rg Z d rx_m81 20 [l0, l1, l2, l3, some (.int x)] S (rz_mk h ι, w) = rg Z d rx_m81 22 [l0, l1, l2, l3, some (.int x)] (.int x :: S) (rz_mk h ι, w) := rz_s1 fun _ => rfl
theorem g81_22 : rg Z d rx_m81 22 [some (.ref a), l1, l2, l3, l4] S (rz_mk h ι, w) = rg Z d rx_m81 23 [some (.ref a), l1, l2, l3, l4] (.ref a :: S) (rz_mk h ι, w) := rz_s1 fun _ => rfl
theorem g81_23 (c : rz_fR h a 8 1) : rg Z d rx_m81 23 L (.ref a :: S) (rz_mk h ι, w) = rg Z d rx_m81 26 L (rz_rv h a 1 :: S) (rz_mk h ι, w) := rz_gR rfl (by decide) c
theorem g81_26 (c : rz_ar h a 0) : rg Z d rx_m81 26 L (.ref a :: S) (rz_mk h ι, w) = rg Z d rx_m81 27 L (.int (Int32.ofNat (rz_ln h a)) :: S) (rz_mk h ι, w) := rz_alen (by decide) rfl c
theorem g81_27 : rg Z d rx_m81 27 L (.int y :: .int x :: S) (rz_mk h ι, w) = if x < y then rg Z d rx_m81 30 L S (rz_mk h ι, w) else rg Z d rx_m81 41 L S (rz_mk h ι, w) := rz_if2 (pc := 27) (t := 41) (off := 14) (cc := .ge) (by decide) rfl
theorem g81_30 : rg Z d rx_m81 30 [some (.ref a), l1, l2, l3, l4] S (rz_mk h ι, w) = rg Z d rx_m81 31 [some (.ref a), l1, l2, l3, l4] (.ref a :: S) (rz_mk h ι, w) := rz_s1 fun _ => rfl
theorem g81_31 (c : rz_fR h a 8 1) : rg Z d rx_m81 31 L (.ref a :: S) (rz_mk h ι, w) = rg Z d rx_m81 34 L (rz_rv h a 1 :: S) (rz_mk h ι, w) := rz_gR rfl (by decide) c
theorem g81_34 : rg Z d rx_m81 34 [l0, l1, l2, l3, some (.int x)] S (rz_mk h ι, w) = rg Z d rx_m81 36 [l0, l1, l2, l3, some (.int x)] (.int x :: S) (rz_mk h ι, w) := rz_s1 fun _ => rfl
theorem g81_36 (c : rz_ar h a 0) (hi : rz_ix x (rz_ln h a)) : rg Z d rx_m81 36 L (.int x :: .ref a :: S) (rz_mk h ι, w) = rg Z d rx_m81 37 L (.int (ι a x.toNatClampNeg) :: S) (rz_mk h ι, w) := rz_iald rfl c hi
theorem g81_37 : rg Z d rx_m81 37 [l0, l1, l2, some (.int x), l4] S (rz_mk h ι, w) = rg Z d rx_m81 38 [l0, l1, l2, some (.int x), l4] (.int x :: S) (rz_mk h ι, w) := rz_s1 fun _ => rfl
theorem g81_38 : rg Z d rx_m81 38 L (.int y :: .int x :: S) (rz_mk h ι, w) = if x = y then rg Z d rx_m81 41 L S (rz_mk h ι, w) else rg Z d rx_m81 43 L S (rz_mk h ι, w) := rz_if2 (pc := 38) (t := 43) (off := 5) (cc := .ne) (by decide) rfl
theorem g81_41 : rg Z d rx_m81 41 L S (rz_mk h ι, w) = rg Z d rx_m81 42 L (.int 0 :: S) (rz_mk h ι, w) := rz_s1 fun _ => rfl
theorem g81_42 (c : narrow .boolean (.int x) = .int x) : rg Z d rx_m81 42 L [.int x] (rz_mk h ι, w) = some (.inl (some (.int x)), (rz_mk h ι, w)) := rz_reti rfl rfl c
theorem g81_43 : rg Z d rx_m81 43 [some (.ref a), l1, l2, l3, l4] S (rz_mk h ι, w) = rg Z d rx_m81 44 [some (.ref a), l1, l2, l3, l4] (.ref a :: S) (rz_mk h ι, w) := rz_s1 fun _ => rfl
theorem g81_44 (c : rz_fR h a 8 1) : rg Z d rx_m81 44 L (.ref a :: S) (rz_mk h ι, w) = rg Z d rx_m81 47 L (rz_rv h a 1 :: S) (rz_mk h ι, w) := rz_gR rfl (by decide) c
theorem g81_47 : rg Z d rx_m81 47 [l0, l1, l2, l3, some (.int x)] S (rz_mk h ι, w) = rg Z d rx_m81 49 [l0, l1, l2, l3, some (.int x)] (.int x :: S) (rz_mk h ι, w) := rz_s1 fun _ => rfl
theorem g81_49 : rg Z d rx_m81 49 [l0, l1, l2, some (.int x), l4] S (rz_mk h ι, w) = rg Z d rx_m81 50 [l0, l1, l2, some (.int x), l4] (.int x :: S) (rz_mk h ι, w) := rz_s1 fun _ => rfl
theorem g81_50 (c : rz_ar h a 0) (hi : rz_ix x (rz_ln h a)) (hz : Z.2.1 ≤ a) : rg Z d rx_m81 50 L (.int y :: .int x :: .ref a :: S) (rz_mk h ι, w) = rg Z d rx_m81 51 L S (rz_mk h (rz_up ι a x.toNatClampNeg y), w) := rz_iast rfl c hi hz
theorem g81_51 : rg Z d rx_m81 51 L S (rz_mk h ι, w) = rg Z d rx_m81 52 L (.int 1 :: S) (rz_mk h ι, w) := rz_s1 fun _ => rfl
theorem g81_52 (c : narrow .boolean (.int x) = .int x) : rg Z d rx_m81 52 L [.int x] (rz_mk h ι, w) = some (.inl (some (.int x)), (rz_mk h ι, w)) := rz_reti rfl rfl c
theorem e81 : rz_f Z (d + 1) 81 [.ref t0, .int s1, .int s2, .int s3] σ = rg Z d rx_m81 0 [some (.ref t0), some (.int s1), some (.int s2), some (.int s3), none] [] σ := rz_f_eq rfl (Nat.le_of_ble_eq_true rfl)
theorem g82_0 : rg Z d rx_m82 0 [some (.ref a), l1] S (rz_mk h ι, w) = rg Z d rx_m82 1 [some (.ref a), l1] (.ref a :: S) (rz_mk h ι, w) := rz_s1 fun _ => rfl
theorem g82_1 : rg Z d rx_m82 1 [l0, some (.int x)] S (rz_mk h ι, w) = rg Z d rx_m82 2 [l0, some (.int x)] (.int x :: S) (rz_mk h ι, w) := rz_s1 fun _ => rfl
theorem g82_2 (c : rz_oc h a 8) : rg Z d rx_m82 2 L (v1 :: .ref a :: []) (rz_mk h ι, w) = rz_k true (rz_f Z d 67 [.ref a, v1] (rz_mk h ι, w)) (fun v σ' => rg Z d rx_m82 5 L (v.toList ++ []) σ') := rz_cv (pc := 2) (n := 1) (mi := 67) (S := v1 :: .ref a :: []) (rest := []) rfl rfl (Nat.le_of_ble_eq_true rfl) (Nat.le_of_ble_eq_true rfl) c
theorem g82_5 : rg Z d rx_m82 5 L (.int x :: S) (rz_mk h ι, w) = if x = 0 then rg Z d rx_m82 16 L S (rz_mk h ι, w) else rg Z d rx_m82 8 L S (rz_mk h ι, w) := rz_if1 (pc := 5) (t := 16) (off := 11) (cc := .eq) (by decide) rfl
theorem g82_8 : rg Z d rx_m82 8 [some (.ref a), l1] S (rz_mk h ι, w) = rg Z d rx_m82 9 [some (.ref a), l1] (.ref a :: S) (rz_mk h ι, w) := rz_s1 fun _ => rfl
theorem g82_9 : rg Z d rx_m82 9 [l0, some (.int x)] S (rz_mk h ι, w) = rg Z d rx_m82 10 [l0, some (.int x)] (.int x :: S) (rz_mk h ι, w) := rz_s1 fun _ => rfl
theorem g82_10 (c : rz_oc h a 8) : rg Z d rx_m82 10 L (v1 :: .ref a :: []) (rz_mk h ι, w) = rz_k true (rz_f Z d 75 [.ref a, v1] (rz_mk h ι, w)) (fun v σ' => rg Z d rx_m82 13 L (v.toList ++ []) σ') := rz_cv (pc := 10) (n := 1) (mi := 75) (S := v1 :: .ref a :: []) (rest := []) rfl rfl (Nat.le_of_ble_eq_true rfl) (Nat.le_of_ble_eq_true rfl) c
theorem g82_13 : rg Z d rx_m82 13 L (.int x :: S) (rz_mk h ι, w) = if x = 0 then rg Z d rx_m82 16 L S (rz_mk h ι, w) else rg Z d rx_m82 18 L S (rz_mk h ι, w) := rz_if1 (pc := 13) (t := 18) (off := 5) (cc := .ne) (by decide) rfl
theorem g82_16 : rg Z d rx_m82 16 L S (rz_mk h ι, w) = rg Z d rx_m82 17 L (.int 0 :: S) (rz_mk h ι, w) := rz_s1 fun _ => rfl
theorem g82_17 (c : narrow .boolean (.int x) = .int x) : rg Z d rx_m82 17 L [.int x] (rz_mk h ι, w) = some (.inl (some (.int x)), (rz_mk h ι, w)) := rz_reti rfl rfl c
theorem g82_18 : rg Z d rx_m82 18 [some (.ref a), l1] S (rz_mk h ι, w) = rg Z d rx_m82 19 [some (.ref a), l1] (.ref a :: S) (rz_mk h ι, w) := rz_s1 fun _ => rfl
theorem g82_19 (c : rz_fR h a 8 0) : rg Z d rx_m82 19 L (.ref a :: S) (rz_mk h ι, w) = rg Z d rx_m82 22 L (rz_rv h a 0 :: S) (rz_mk h ι, w) := rz_gR rfl (by decide) c
theorem g82_22 : rg Z d rx_m82 22 [l0, some (.int x)] S (rz_mk h ι, w) = rg Z d rx_m82 23 [l0, some (.int x)] (.int x :: S) (rz_mk h ι, w) := rz_s1 fun _ => rfl
theorem g82_23 : rg Z d rx_m82 23 L S (rz_mk h ι, w) = rg Z d rx_m82 24 L (.int 3 :: S) (rz_mk h ι, w) := rz_s1 fun _ => rfl
theorem g82_24 : rg Z d rx_m82 24 L (.int y :: .int x :: S) (rz_mk h ι, w) = rg Z d rx_m82 25 L (.int (x * y) :: S) (rz_mk h ι, w) := rz_s1 fun _ => rfl
theorem g82_25 : rg Z d rx_m82 25 [some (.ref a), l1] S (rz_mk h ι, w) = rg Z d rx_m82 26 [some (.ref a), l1] (.ref a :: S) (rz_mk h ι, w) := rz_s1 fun _ => rfl
theorem g82_26 (c : rz_fR h a 8 1) : rg Z d rx_m82 26 L (.ref a :: S) (rz_mk h ι, w) = rg Z d rx_m82 29 L (rz_rv h a 1 :: S) (rz_mk h ι, w) := rz_gR rfl (by decide) c
theorem g82_29 : rg Z d rx_m82 29 [l0, some (.int x)] S (rz_mk h ι, w) = rg Z d rx_m82 30 [l0, some (.int x)] (.int x :: S) (rz_mk h ι, w) := rz_s1 fun _ => rfl
theorem g82_30 : rg Z d rx_m82 30 L S (rz_mk h ι, w) = rg Z d rx_m82 31 L (.int 3 :: S) (rz_mk h ι, w) := rz_s1 fun _ => rfl
theorem g82_31 : rg Z d rx_m82 31 L (.int y :: .int x :: S) (rz_mk h ι, w) = rg Z d rx_m82 32 L (.int (x * y) :: S) (rz_mk h ι, w) := rz_s1 fun _ => rfl
theorem g82_32 : rg Z d rx_m82 32 L S (rz_mk h ι, w) = rg Z d rx_m82 33 L (.int 3 :: S) (rz_mk h ι, w) := rz_s1 fun _ => rfl
theorem g82_33 (ha : rz_ar h a 0) (hb : rz_ar h b 0) (hz : Z.2.1 ≤ b) (h1 : ¬ z < 0) (h2 : ¬ y < 0) (h3 : ¬ x < 0) (h4 : z.toNatClampNeg + x.toNatClampNeg ≤ rz_ln h a) (h5 : y.toNatClampNeg + x.toNatClampNeg ≤ rz_ln h b) : rg Z d rx_m82 33 L (.int x :: .int y :: .ref b :: .int z :: .ref a :: []) (rz_mk h ι, w) = rg Z d rx_m82 36 L [] (rz_mk h (rz_cp ι a b z.toNatClampNeg y.toNatClampNeg x.toNatClampNeg), w) := rz_acp rfl (Nat.le_of_ble_eq_true rfl) ha hb hz h1 h2 h3 h4 h5
theorem g82_36 : rg Z d rx_m82 36 L S (rz_mk h ι, w) = rg Z d rx_m82 37 L (.int 1 :: S) (rz_mk h ι, w) := rz_s1 fun _ => rfl
theorem g82_37 (c : narrow .boolean (.int x) = .int x) : rg Z d rx_m82 37 L [.int x] (rz_mk h ι, w) = some (.inl (some (.int x)), (rz_mk h ι, w)) := rz_reti rfl rfl c
theorem e82 : rz_f Z (d + 1) 82 [.ref t0, .int s1] σ = rg Z d rx_m82 0 [some (.ref t0), some (.int s1)] [] σ := rz_f_eq rfl (Nat.le_of_ble_eq_true rfl)
theorem g83_0 : rg Z d rx_m83 0 [some (.ref a), l1, l2] S (rz_mk h ι, w) = rg Z d rx_m83 1 [some (.ref a), l1, l2] (.ref a :: S) (rz_mk h ι, w) := rz_s1 fun _ => rfl
theorem g83_1 : rg Z d rx_m83 1 [l0, some (.int x), l2] S (rz_mk h ι, w) = rg Z d rx_m83 2 [l0, some (.int x), l2] (.int x :: S) (rz_mk h ι, w) := rz_s1 fun _ => rfl
theorem g83_2 (c : rz_oc h a 8) : rg Z d rx_m83 2 L (v1 :: .ref a :: []) (rz_mk h ι, w) = rz_k true (rz_f Z d 68 [.ref a, v1] (rz_mk h ι, w)) (fun v σ' => rg Z d rx_m83 5 L (v.toList ++ []) σ') := rz_cv (pc := 2) (n := 1) (mi := 68) (S := v1 :: .ref a :: []) (rest := []) rfl rfl (Nat.le_of_ble_eq_true rfl) (Nat.le_of_ble_eq_true rfl) c
theorem g83_5 : rg Z d rx_m83 5 L (.int x :: S) (rz_mk h ι, w) = if x = 0 then rg Z d rx_m83 21 L S (rz_mk h ι, w) else rg Z d rx_m83 8 L S (rz_mk h ι, w) := rz_if1 (pc := 5) (t := 21) (off := 16) (cc := .eq) (by decide) rfl
theorem g83_8 : rg Z d rx_m83 8 [some (.ref a), l1, l2] S (rz_mk h ι, w) = rg Z d rx_m83 9 [some (.ref a), l1, l2] (.ref a :: S) (rz_mk h ι, w) := rz_s1 fun _ => rfl
theorem g83_9 : rg Z d rx_m83 9 [l0, l1, some (.int x)] S (rz_mk h ι, w) = rg Z d rx_m83 10 [l0, l1, some (.int x)] (.int x :: S) (rz_mk h ι, w) := rz_s1 fun _ => rfl
theorem g83_10 (c : rz_oc h a 8) : rg Z d rx_m83 10 L (v1 :: .ref a :: []) (rz_mk h ι, w) = rz_k true (rz_f Z d 68 [.ref a, v1] (rz_mk h ι, w)) (fun v σ' => rg Z d rx_m83 13 L (v.toList ++ []) σ') := rz_cv (pc := 10) (n := 1) (mi := 68) (S := v1 :: .ref a :: []) (rest := []) rfl rfl (Nat.le_of_ble_eq_true rfl) (Nat.le_of_ble_eq_true rfl) c
theorem g83_13 : rg Z d rx_m83 13 L (.int x :: S) (rz_mk h ι, w) = if x = 0 then rg Z d rx_m83 21 L S (rz_mk h ι, w) else rg Z d rx_m83 16 L S (rz_mk h ι, w) := rz_if1 (pc := 13) (t := 21) (off := 8) (cc := .eq) (by decide) rfl
theorem g83_16 : rg Z d rx_m83 16 [l0, some (.int x), l2] S (rz_mk h ι, w) = rg Z d rx_m83 17 [l0, some (.int x), l2] (.int x :: S) (rz_mk h ι, w) := rz_s1 fun _ => rfl
theorem g83_17 : rg Z d rx_m83 17 [l0, l1, some (.int x)] S (rz_mk h ι, w) = rg Z d rx_m83 18 [l0, l1, some (.int x)] (.int x :: S) (rz_mk h ι, w) := rz_s1 fun _ => rfl
theorem g83_18 : rg Z d rx_m83 18 L (.int y :: .int x :: S) (rz_mk h ι, w) = if x = y then rg Z d rx_m83 21 L S (rz_mk h ι, w) else rg Z d rx_m83 23 L S (rz_mk h ι, w) := rz_if2 (pc := 18) (t := 23) (off := 5) (cc := .ne) (by decide) rfl
theorem g83_21 : rg Z d rx_m83 21 L S (rz_mk h ι, w) = rg Z d rx_m83 22 L (.int 0 :: S) (rz_mk h ι, w) := rz_s1 fun _ => rfl
theorem g83_22 (c : narrow .boolean (.int x) = .int x) : rg Z d rx_m83 22 L [.int x] (rz_mk h ι, w) = some (.inl (some (.int x)), (rz_mk h ι, w)) := rz_reti rfl rfl c
theorem g83_23 : rg Z d rx_m83 23 [some (.ref a), l1, l2] S (rz_mk h ι, w) = rg Z d rx_m83 24 [some (.ref a), l1, l2] (.ref a :: S) (rz_mk h ι, w) := rz_s1 fun _ => rfl
theorem g83_24 : rg Z d rx_m83 24 [some (.ref a), l1, l2] S (rz_mk h ι, w) = rg Z d rx_m83 25 [some (.ref a), l1, l2] (.ref a :: S) (rz_mk h ι, w) := rz_s1 fun _ => rfl
theorem g83_25 : rg Z d rx_m83 25 [l0, some (.int x), l2] S (rz_mk h ι, w) = rg Z d rx_m83 26 [l0, some (.int x), l2] (.int x :: S) (rz_mk h ι, w) := rz_s1 fun _ => rfl
theorem g83_26 : rg Z d rx_m83 26 [l0, l1, some (.int x)] S (rz_mk h ι, w) = rg Z d rx_m83 27 [l0, l1, some (.int x)] (.int x :: S) (rz_mk h ι, w) := rz_s1 fun _ => rfl
theorem g83_27 : rg Z d rx_m83 27 L S (rz_mk h ι, w) = rg Z d rx_m83 28 L (.int 0 :: S) (rz_mk h ι, w) := rz_s1 fun _ => rfl
theorem g83_28 (c : rz_oc h a 8) : rg Z d rx_m83 28 L (v3 :: v2 :: v1 :: .ref a :: [.ref t0]) (rz_mk h ι, w) = rz_k true (rz_f Z d 78 [.ref a, v1, v2, v3] (rz_mk h ι, w)) (fun v σ' => rg Z d rx_m83 31 L (v.toList ++ [.ref t0]) σ') := rz_cv (pc := 28) (n := 3) (mi := 78) (S := v3 :: v2 :: v1 :: .ref a :: [.ref t0]) (rest := [.ref t0]) rfl rfl (Nat.le_of_ble_eq_true rfl) (Nat.le_of_ble_eq_true rfl) c
theorem g83_31 : rg Z d rx_m83 31 [some (.ref a), l1, l2] S (rz_mk h ι, w) = rg Z d rx_m83 32 [some (.ref a), l1, l2] (.ref a :: S) (rz_mk h ι, w) := rz_s1 fun _ => rfl
theorem g83_32 : rg Z d rx_m83 32 [l0, some (.int x), l2] S (rz_mk h ι, w) = rg Z d rx_m83 33 [l0, some (.int x), l2] (.int x :: S) (rz_mk h ι, w) := rz_s1 fun _ => rfl
theorem g83_33 : rg Z d rx_m83 33 [l0, l1, some (.int x)] S (rz_mk h ι, w) = rg Z d rx_m83 34 [l0, l1, some (.int x)] (.int x :: S) (rz_mk h ι, w) := rz_s1 fun _ => rfl
theorem g83_34 : rg Z d rx_m83 34 L S (rz_mk h ι, w) = rg Z d rx_m83 35 L (.int 1 :: S) (rz_mk h ι, w) := rz_s1 fun _ => rfl
theorem g83_35 (c : rz_oc h a 8) : rg Z d rx_m83 35 L (v3 :: v2 :: v1 :: .ref a :: [.int s0, .ref t1]) (rz_mk h ι, w) = rz_k true (rz_f Z d 78 [.ref a, v1, v2, v3] (rz_mk h ι, w)) (fun v σ' => rg Z d rx_m83 38 L (v.toList ++ [.int s0, .ref t1]) σ') := rz_cv (pc := 35) (n := 3) (mi := 78) (S := v3 :: v2 :: v1 :: .ref a :: [.int s0, .ref t1]) (rest := [.int s0, .ref t1]) rfl rfl (Nat.le_of_ble_eq_true rfl) (Nat.le_of_ble_eq_true rfl) c
theorem g83_38 : rg Z d rx_m83 38 [some (.ref a), l1, l2] S (rz_mk h ι, w) = rg Z d rx_m83 39 [some (.ref a), l1, l2] (.ref a :: S) (rz_mk h ι, w) := rz_s1 fun _ => rfl
theorem g83_39 : rg Z d rx_m83 39 [l0, some (.int x), l2] S (rz_mk h ι, w) = rg Z d rx_m83 40 [l0, some (.int x), l2] (.int x :: S) (rz_mk h ι, w) := rz_s1 fun _ => rfl
theorem g83_40 : rg Z d rx_m83 40 [l0, l1, some (.int x)] S (rz_mk h ι, w) = rg Z d rx_m83 41 [l0, l1, some (.int x)] (.int x :: S) (rz_mk h ι, w) := rz_s1 fun _ => rfl
theorem g83_41 : rg Z d rx_m83 41 L S (rz_mk h ι, w) = rg Z d rx_m83 42 L (.int 2 :: S) (rz_mk h ι, w) := rz_s1 fun _ => rfl
theorem g83_42 (c : rz_oc h a 8) : rg Z d rx_m83 42 L (v3 :: v2 :: v1 :: .ref a :: [.int s0, .int s1, .ref t2]) (rz_mk h ι, w) = rz_k true (rz_f Z d 78 [.ref a, v1, v2, v3] (rz_mk h ι, w)) (fun v σ' => rg Z d rx_m83 45 L (v.toList ++ [.int s0, .int s1, .ref t2]) σ') := rz_cv (pc := 42) (n := 3) (mi := 78) (S := v3 :: v2 :: v1 :: .ref a :: [.int s0, .int s1, .ref t2]) (rest := [.int s0, .int s1, .ref t2]) rfl rfl (Nat.le_of_ble_eq_true rfl) (Nat.le_of_ble_eq_true rfl) c
theorem g83_45 : rg Z d rx_m83 45 L S (rz_mk h ι, w) = rg Z d rx_m83 46 L (.int 0 :: S) (rz_mk h ι, w) := rz_s1 fun _ => rfl
theorem g83_46 (c : rz_oc h a 8) : rg Z d rx_m83 46 L (v4 :: v3 :: v2 :: v1 :: .ref a :: []) (rz_mk h ι, w) = rz_k true (rz_f Z d 79 [.ref a, v1, v2, v3, v4] (rz_mk h ι, w)) (fun v σ' => rg Z d rx_m83 49 L (v.toList ++ []) σ') := rz_cv (pc := 46) (n := 4) (mi := 79) (S := v4 :: v3 :: v2 :: v1 :: .ref a :: []) (rest := []) rfl rfl (Nat.le_of_ble_eq_true rfl) (Nat.le_of_ble_eq_true rfl) c
theorem g83_49 (c : narrow .boolean (.int x) = .int x) : rg Z d rx_m83 49 L [.int x] (rz_mk h ι, w) = some (.inl (some (.int x)), (rz_mk h ι, w)) := rz_reti rfl rfl c
theorem e83 : rz_f Z (d + 1) 83 [.ref t0, .int s1, .int s2] σ = rg Z d rx_m83 0 [some (.ref t0), some (.int s1), some (.int s2)] [] σ := rz_f_eq rfl (Nat.le_of_ble_eq_true rfl)
theorem g84_0 : rg Z d rx_m84 0 [some (.ref a), l1, l2] S (rz_mk h ι, w) = rg Z d rx_m84 1 [some (.ref a), l1, l2] (.ref a :: S) (rz_mk h ι, w) := rz_s1 fun _ => rfl
theorem g84_1 : rg Z d rx_m84 1 [l0, some (.int x), l2] S (rz_mk h ι, w) = rg Z d rx_m84 2 [l0, some (.int x), l2] (.int x :: S) (rz_mk h ι, w) := rz_s1 fun _ => rfl
theorem g84_2 (c : rz_oc h a 8) : rg Z d rx_m84 2 L (v1 :: .ref a :: []) (rz_mk h ι, w) = rz_k true (rz_f Z d 68 [.ref a, v1] (rz_mk h ι, w)) (fun v σ' => rg Z d rx_m84 5 L (v.toList ++ []) σ') := rz_cv (pc := 2) (n := 1) (mi := 68) (S := v1 :: .ref a :: []) (rest := []) rfl rfl (Nat.le_of_ble_eq_true rfl) (Nat.le_of_ble_eq_true rfl) c
theorem g84_5 : rg Z d rx_m84 5 L (.int x :: S) (rz_mk h ι, w) = if x = 0 then rg Z d rx_m84 8 L S (rz_mk h ι, w) else rg Z d rx_m84 10 L S (rz_mk h ι, w) := rz_if1 (pc := 5) (t := 10) (off := 5) (cc := .ne) (by decide) rfl
theorem g84_8 : rg Z d rx_m84 8 L S (rz_mk h ι, w) = rg Z d rx_m84 9 L (.int 0 :: S) (rz_mk h ι, w) := rz_s1 fun _ => rfl
theorem g84_9 (c : narrow .boolean (.int x) = .int x) : rg Z d rx_m84 9 L [.int x] (rz_mk h ι, w) = some (.inl (some (.int x)), (rz_mk h ι, w)) := rz_reti rfl rfl c
theorem g84_10 : rg Z d rx_m84 10 [some (.ref a), l1, l2] S (rz_mk h ι, w) = rg Z d rx_m84 11 [some (.ref a), l1, l2] (.ref a :: S) (rz_mk h ι, w) := rz_s1 fun _ => rfl
theorem g84_11 : rg Z d rx_m84 11 L (.ref a :: S) (rz_mk h ι, w) = rg Z d rx_m84 12 L (.ref a :: .ref a :: S) (rz_mk h ι, w) := rz_s1 fun _ => rfl
theorem g84_12 (c : rz_fI h a 8 4) : rg Z d rx_m84 12 L (.ref a :: S) (rz_mk h ι, w) = rg Z d rx_m84 15 L (.int (ι a 4) :: S) (rz_mk h ι, w) := rz_gI rfl (by decide) c
theorem g84_15 : rg Z d rx_m84 15 L S (rz_mk h ι, w) = rg Z d rx_m84 16 L (.int 1 :: S) (rz_mk h ι, w) := rz_s1 fun _ => rfl
theorem g84_16 : rg Z d rx_m84 16 [l0, some (.int x), l2] S (rz_mk h ι, w) = rg Z d rx_m84 17 [l0, some (.int x), l2] (.int x :: S) (rz_mk h ι, w) := rz_s1 fun _ => rfl
theorem g84_17 : rg Z d rx_m84 17 L (.int y :: .int x :: S) (rz_mk h ι, w) = rg Z d rx_m84 18 L (.int (x <<< (y &&& 31)) :: S) (rz_mk h ι, w) := rz_s1 fun _ => rfl
theorem g84_18 : rg Z d rx_m84 18 L S (rz_mk h ι, w) = rg Z d rx_m84 19 L (.int (-1) :: S) (rz_mk h ι, w) := rz_s1 fun _ => rfl
theorem g84_19 : rg Z d rx_m84 19 L (.int y :: .int x :: S) (rz_mk h ι, w) = rg Z d rx_m84 20 L (.int (x ^^^ y) :: S) (rz_mk h ι, w) := rz_s1 fun _ => rfl
theorem g84_20 : rg Z d rx_m84 20 L (.int y :: .int x :: S) (rz_mk h ι, w) = rg Z d rx_m84 21 L (.int (x &&& y) :: S) (rz_mk h ι, w) := rz_s1 fun _ => rfl
theorem g84_21 (c : rz_fI h a 8 4) (hz : Z.2.1 ≤ a) : rg Z d rx_m84 21 L (.int x :: .ref a :: S) (rz_mk h ι, w) = rg Z d rx_m84 24 L S (rz_mk h (rz_up ι a 4 x), w) := rz_pI rfl c hz
theorem g84_24 : rg Z d rx_m84 24 [l0, some (.int x), l2] S (rz_mk h ι, w) = rg Z d rx_m84 25 [l0, some (.int x), l2] (.int x :: S) (rz_mk h ι, w) := rz_s1 fun _ => rfl
theorem g84_25 : rg Z d rx_m84 25 [some (.ref a), l1, l2] S (rz_mk h ι, w) = rg Z d rx_m84 26 [some (.ref a), l1, l2] (.ref a :: S) (rz_mk h ι, w) := rz_s1 fun _ => rfl
theorem g84_26 (c : rz_fI h a 8 5) : rg Z d rx_m84 26 L (.ref a :: S) (rz_mk h ι, w) = rg Z d rx_m84 29 L (.int (ι a 5) :: S) (rz_mk h ι, w) := rz_gI rfl (by decide) c
theorem g84_29 : rg Z d rx_m84 29 L (.int y :: .int x :: S) (rz_mk h ι, w) = if x = y then rg Z d rx_m84 32 L S (rz_mk h ι, w) else rg Z d rx_m84 42 L S (rz_mk h ι, w) := rz_if2 (pc := 29) (t := 42) (off := 13) (cc := .ne) (by decide) rfl
theorem g84_32 : rg Z d rx_m84 32 [some (.ref a), l1, l2] S (rz_mk h ι, w) = rg Z d rx_m84 33 [some (.ref a), l1, l2] (.ref a :: S) (rz_mk h ι, w) := rz_s1 fun _ => rfl
theorem g84_33 : rg Z d rx_m84 33 [l0, l1, some (.ref a)] S (rz_mk h ι, w) = rg Z d rx_m84 34 [l0, l1, some (.ref a)] (.ref a :: S) (rz_mk h ι, w) := rz_s1 fun _ => rfl
theorem g84_34 : rg Z d rx_m84 34 [some (.ref a), l1, l2] S (rz_mk h ι, w) = rg Z d rx_m84 35 [some (.ref a), l1, l2] (.ref a :: S) (rz_mk h ι, w) := rz_s1 fun _ => rfl
theorem g84_35 : rg Z d rx_m84 35 [l0, some (.int x), l2] S (rz_mk h ι, w) = rg Z d rx_m84 36 [l0, some (.int x), l2] (.int x :: S) (rz_mk h ι, w) := rz_s1 fun _ => rfl
theorem g84_36 (c : rz_oc h a 5) : rg Z d rx_m84 36 L (v2 :: v1 :: .ref a :: [.ref t0]) (rz_mk h ι, w) = rz_k true (rz_f Z d 51 [.ref a, v1, v2] (rz_mk h ι, w)) (fun v σ' => rg Z d rx_m84 39 L (v.toList ++ [.ref t0]) σ') := rz_cv (pc := 36) (n := 2) (mi := 51) (S := v2 :: v1 :: .ref a :: [.ref t0]) (rest := [.ref t0]) rfl rfl (Nat.le_of_ble_eq_true rfl) (Nat.le_of_ble_eq_true rfl) c
theorem g84_39 (c : rz_oc h a 8) : rg Z d rx_m84 39 L (v1 :: .ref a :: []) (rz_mk h ι, w) = rz_k true (rz_f Z d 80 [.ref a, v1] (rz_mk h ι, w)) (fun v σ' => rg Z d rx_m84 42 L (v.toList ++ []) σ') := rz_cv (pc := 39) (n := 1) (mi := 80) (S := v1 :: .ref a :: []) (rest := []) rfl rfl (Nat.le_of_ble_eq_true rfl) (Nat.le_of_ble_eq_true rfl) c
theorem g84_42 : rg Z d rx_m84 42 L S (rz_mk h ι, w) = rg Z d rx_m84 43 L (.int 1 :: S) (rz_mk h ι, w) := rz_s1 fun _ => rfl
theorem g84_43 (c : narrow .boolean (.int x) = .int x) : rg Z d rx_m84 43 L [.int x] (rz_mk h ι, w) = some (.inl (some (.int x)), (rz_mk h ι, w)) := rz_reti rfl rfl c
theorem e84 : rz_f Z (d + 1) 84 [.ref t0, .int s1, .ref t2] σ = rg Z d rx_m84 0 [some (.ref t0), some (.int s1), some (.ref t2)] [] σ := rz_f_eq rfl (Nat.le_of_ble_eq_true rfl)
theorem g85_0 : rg Z d rx_m85 0 [some (.ref a)] S (rz_mk h ι, w) = rg Z d rx_m85 1 [some (.ref a)] (.ref a :: S) (rz_mk h ι, w) := rz_s1 fun _ => rfl
theorem g85_1 (c : rz_fI h a 8 7) : rg Z d rx_m85 1 L (.ref a :: S) (rz_mk h ι, w) = rg Z d rx_m85 4 L (.int (ι a 7) :: S) (rz_mk h ι, w) := rz_gI rfl (by decide) c
theorem g85_4 : rg Z d rx_m85 4 L S (rz_mk h ι, w) = rg Z d rx_m85 7 L (.int 900 :: S) (rz_mk h ι, w) := rz_s1 fun _ => rfl
theorem g85_7 : rg Z d rx_m85 7 L (.int y :: .int x :: S) (rz_mk h ι, w) = if x < y then rg Z d rx_m85 12 L S (rz_mk h ι, w) else rg Z d rx_m85 10 L S (rz_mk h ι, w) := rz_if2 (pc := 7) (t := 12) (off := 5) (cc := .lt) (by decide) rfl
theorem g85_10 : rg Z d rx_m85 10 L S (rz_mk h ι, w) = rg Z d rx_m85 11 L (.int 0 :: S) (rz_mk h ι, w) := rz_s1 fun _ => rfl
theorem g85_11 (c : narrow .boolean (.int x) = .int x) : rg Z d rx_m85 11 L [.int x] (rz_mk h ι, w) = some (.inl (some (.int x)), (rz_mk h ι, w)) := rz_reti rfl rfl c
theorem g85_12 : rg Z d rx_m85 12 [some (.ref a)] S (rz_mk h ι, w) = rg Z d rx_m85 13 [some (.ref a)] (.ref a :: S) (rz_mk h ι, w) := rz_s1 fun _ => rfl
theorem g85_13 (c : rz_oc h a 8) : rg Z d rx_m85 13 L (.ref a :: []) (rz_mk h ι, w) = rz_k true (rz_f Z d 86 [.ref a] (rz_mk h ι, w)) (fun v σ' => rg Z d rx_m85 16 L (v.toList ++ []) σ') := rz_cv (pc := 13) (n := 0) (mi := 86) (S := .ref a :: []) (rest := []) rfl rfl (Nat.le_of_ble_eq_true rfl) (Nat.le_of_ble_eq_true rfl) c
theorem g85_16 : rg Z d rx_m85 16 L S (rz_mk h ι, w) = rg Z d rx_m85 17 L (.int 1 :: S) (rz_mk h ι, w) := rz_s1 fun _ => rfl
theorem g85_17 (c : narrow .boolean (.int x) = .int x) : rg Z d rx_m85 17 L [.int x] (rz_mk h ι, w) = some (.inl (some (.int x)), (rz_mk h ι, w)) := rz_reti rfl rfl c
theorem e85 : rz_f Z (d + 1) 85 [.ref t0] σ = rg Z d rx_m85 0 [some (.ref t0)] [] σ := rz_f_eq rfl (Nat.le_of_ble_eq_true rfl)
theorem g86_0 : rg Z d rx_m86 0 L S (rz_mk h ι, w) = rg Z d rx_m86 1 L (.int 0 :: S) (rz_mk h ι, w) := rz_s1 fun _ => rfl
theorem g86_1 : rg Z d rx_m86 1 [some (.ref b), l1] (.int x :: S) (rz_mk h ι, w) = rg Z d rx_m86 2 [some (.ref b), some (.int x)] S (rz_mk h ι, w) := rz_s1 fun _ => rfl
theorem g86_2 : rg Z d rx_m86 2 [l0, some (.int x)] S (rz_mk h ι, w) = rg Z d rx_m86 3 [l0, some (.int x)] (.int x :: S) (rz_mk h ι, w) := rz_s1 fun _ => rfl
theorem g86_3 : rg Z d rx_m86 3 [some (.ref a), l1] S (rz_mk h ι, w) = rg Z d rx_m86 4 [some (.ref a), l1] (.ref a :: S) (rz_mk h ι, w) := rz_s1 fun _ => rfl
theorem g86_4 (c : rz_fI h a 8 3) : rg Z d rx_m86 4 L (.ref a :: S) (rz_mk h ι, w) = rg Z d rx_m86 7 L (.int (ι a 3) :: S) (rz_mk h ι, w) := rz_gI rfl (by decide) c
theorem g86_7 : rg Z d rx_m86 7 L (.int y :: .int x :: S) (rz_mk h ι, w) = if x < y then rg Z d rx_m86 10 L S (rz_mk h ι, w) else rg Z d rx_m86 34 L S (rz_mk h ι, w) := rz_if2 (pc := 7) (t := 34) (off := 27) (cc := .ge) (by decide) rfl
theorem g86_10 : rg Z d rx_m86 10 [some (.ref a), l1] S (rz_mk h ι, w) = rg Z d rx_m86 11 [some (.ref a), l1] (.ref a :: S) (rz_mk h ι, w) := rz_s1 fun _ => rfl
theorem g86_11 : rg Z d rx_m86 11 [l0, some (.int x)] S (rz_mk h ι, w) = rg Z d rx_m86 12 [l0, some (.int x)] (.int x :: S) (rz_mk h ι, w) := rz_s1 fun _ => rfl
theorem g86_12 (c : rz_oc h a 8) : rg Z d rx_m86 12 L (v1 :: .ref a :: []) (rz_mk h ι, w) = rz_k true (rz_f Z d 68 [.ref a, v1] (rz_mk h ι, w)) (fun v σ' => rg Z d rx_m86 15 L (v.toList ++ []) σ') := rz_cv (pc := 12) (n := 1) (mi := 68) (S := v1 :: .ref a :: []) (rest := []) rfl rfl (Nat.le_of_ble_eq_true rfl) (Nat.le_of_ble_eq_true rfl) c
theorem g86_15 : rg Z d rx_m86 15 L (.int x :: S) (rz_mk h ι, w) = if x = 0 then rg Z d rx_m86 28 L S (rz_mk h ι, w) else rg Z d rx_m86 18 L S (rz_mk h ι, w) := rz_if1 (pc := 15) (t := 28) (off := 13) (cc := .eq) (by decide) rfl
theorem g86_18 : rg Z d rx_m86 18 [some (.ref a), l1] S (rz_mk h ι, w) = rg Z d rx_m86 19 [some (.ref a), l1] (.ref a :: S) (rz_mk h ι, w) := rz_s1 fun _ => rfl
theorem g86_19 (c : rz_fR h a 8 2) : rg Z d rx_m86 19 L (.ref a :: S) (rz_mk h ι, w) = rg Z d rx_m86 22 L (rz_rv h a 2 :: S) (rz_mk h ι, w) := rz_gR rfl (by decide) c
theorem g86_22 : rg Z d rx_m86 22 [l0, some (.int x)] S (rz_mk h ι, w) = rg Z d rx_m86 23 [l0, some (.int x)] (.int x :: S) (rz_mk h ι, w) := rz_s1 fun _ => rfl
theorem g86_23 : rg Z d rx_m86 23 L (.int x :: .ref b :: S) (rz_mk h ι, w) = rg Z d rx_m86 24 L (.int x :: .ref b :: .int x :: .ref b :: S) (rz_mk h ι, w) := rz_s1 fun _ => rfl
theorem g86_24 (c : rz_ar h a 0) (hi : rz_ix x (rz_ln h a)) : rg Z d rx_m86 24 L (.int x :: .ref a :: S) (rz_mk h ι, w) = rg Z d rx_m86 25 L (.int (ι a x.toNatClampNeg) :: S) (rz_mk h ι, w) := rz_iald rfl c hi
theorem g86_25 : rg Z d rx_m86 25 L S (rz_mk h ι, w) = rg Z d rx_m86 26 L (.int 1 :: S) (rz_mk h ι, w) := rz_s1 fun _ => rfl
theorem g86_26 : rg Z d rx_m86 26 L (.int y :: .int x :: S) (rz_mk h ι, w) = rg Z d rx_m86 27 L (.int (x + y) :: S) (rz_mk h ι, w) := rz_s1 fun _ => rfl
theorem g86_27 (c : rz_ar h a 0) (hi : rz_ix x (rz_ln h a)) (hz : Z.2.1 ≤ a) : rg Z d rx_m86 27 L (.int y :: .int x :: .ref a :: S) (rz_mk h ι, w) = rg Z d rx_m86 28 L S (rz_mk h (rz_up ι a x.toNatClampNeg y), w) := rz_iast rfl c hi hz
theorem g86_28 : rg Z d rx_m86 28 [some (.ref b), some (.int x)] S (rz_mk h ι, w) = rg Z d rx_m86 31 [some (.ref b), some (.int (x + 1))] S (rz_mk h ι, w) := rz_s1 fun _ => rfl
theorem g86_31 : rg Z d rx_m86 31 L S (rz_mk h ι, w) = rg Z d rx_m86 2 L S (rz_mk h ι, w) := rz_s1 fun _ => rfl
theorem g86_34 : rg Z d rx_m86 34 [some (.ref a), l1] S (rz_mk h ι, w) = rg Z d rx_m86 35 [some (.ref a), l1] (.ref a :: S) (rz_mk h ι, w) := rz_s1 fun _ => rfl
theorem g86_35 : rg Z d rx_m86 35 L (.ref a :: S) (rz_mk h ι, w) = rg Z d rx_m86 36 L (.ref a :: .ref a :: S) (rz_mk h ι, w) := rz_s1 fun _ => rfl
theorem g86_36 (c : rz_fI h a 8 6) : rg Z d rx_m86 36 L (.ref a :: S) (rz_mk h ι, w) = rg Z d rx_m86 39 L (.int (ι a 6) :: S) (rz_mk h ι, w) := rz_gI rfl (by decide) c
theorem g86_39 : rg Z d rx_m86 39 [some (.ref a), l1] S (rz_mk h ι, w) = rg Z d rx_m86 40 [some (.ref a), l1] (.ref a :: S) (rz_mk h ι, w) := rz_s1 fun _ => rfl
theorem g86_40 (c : rz_fI h a 8 5) : rg Z d rx_m86 40 L (.ref a :: S) (rz_mk h ι, w) = rg Z d rx_m86 43 L (.int (ι a 5) :: S) (rz_mk h ι, w) := rz_gI rfl (by decide) c
theorem g86_43 : rg Z d rx_m86 43 L S (rz_mk h ι, w) = rg Z d rx_m86 44 L (.int (-1) :: S) (rz_mk h ι, w) := rz_s1 fun _ => rfl
theorem g86_44 : rg Z d rx_m86 44 L (.int y :: .int x :: S) (rz_mk h ι, w) = if x = y then rg Z d rx_m86 47 L S (rz_mk h ι, w) else rg Z d rx_m86 51 L S (rz_mk h ι, w) := rz_if2 (pc := 44) (t := 51) (off := 7) (cc := .ne) (by decide) rfl
theorem g86_47 : rg Z d rx_m86 47 L S (rz_mk h ι, w) = rg Z d rx_m86 48 L (.int 0 :: S) (rz_mk h ι, w) := rz_s1 fun _ => rfl
theorem g86_48 : rg Z d rx_m86 48 L S (rz_mk h ι, w) = rg Z d rx_m86 52 L S (rz_mk h ι, w) := rz_s1 fun _ => rfl
theorem g86_51 : rg Z d rx_m86 51 L S (rz_mk h ι, w) = rg Z d rx_m86 52 L (.int 1 :: S) (rz_mk h ι, w) := rz_s1 fun _ => rfl
theorem g86_52 : rg Z d rx_m86 52 L (.int y :: .int x :: S) (rz_mk h ι, w) = rg Z d rx_m86 53 L (.int (x + y) :: S) (rz_mk h ι, w) := rz_s1 fun _ => rfl
theorem g86_53 (c : rz_fI h a 8 6) (hz : Z.2.1 ≤ a) : rg Z d rx_m86 53 L (.int x :: .ref a :: S) (rz_mk h ι, w) = rg Z d rx_m86 56 L S (rz_mk h (rz_up ι a 6 x), w) := rz_pI rfl c hz
theorem g86_56 : rg Z d rx_m86 56 [some (.ref a), l1] S (rz_mk h ι, w) = rg Z d rx_m86 57 [some (.ref a), l1] (.ref a :: S) (rz_mk h ι, w) := rz_s1 fun _ => rfl
theorem g86_57 : rg Z d rx_m86 57 L (.ref a :: S) (rz_mk h ι, w) = rg Z d rx_m86 58 L (.ref a :: .ref a :: S) (rz_mk h ι, w) := rz_s1 fun _ => rfl
theorem g86_58 (c : rz_fI h a 8 7) : rg Z d rx_m86 58 L (.ref a :: S) (rz_mk h ι, w) = rg Z d rx_m86 61 L (.int (ι a 7) :: S) (rz_mk h ι, w) := rz_gI rfl (by decide) c
theorem g86_61 : rg Z d rx_m86 61 L S (rz_mk h ι, w) = rg Z d rx_m86 62 L (.int 1 :: S) (rz_mk h ι, w) := rz_s1 fun _ => rfl
theorem g86_62 : rg Z d rx_m86 62 L (.int y :: .int x :: S) (rz_mk h ι, w) = rg Z d rx_m86 63 L (.int (x + y) :: S) (rz_mk h ι, w) := rz_s1 fun _ => rfl
theorem g86_63 (c : rz_fI h a 8 7) (hz : Z.2.1 ≤ a) : rg Z d rx_m86 63 L (.int x :: .ref a :: S) (rz_mk h ι, w) = rg Z d rx_m86 66 L S (rz_mk h (rz_up ι a 7 x), w) := rz_pI rfl c hz
theorem g86_66 : rg Z d rx_m86 66 L [] (rz_mk h ι, w) = some (.inl none, (rz_mk h ι, w)) := rz_r1 fun _ => rfl
theorem e86 : rz_f Z (d + 1) 86 [.ref t0] σ = rg Z d rx_m86 0 [some (.ref t0), none] [] σ := rz_f_eq rfl (Nat.le_of_ble_eq_true rfl)
end RZG
