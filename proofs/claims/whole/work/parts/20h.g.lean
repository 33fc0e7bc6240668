/-! each instruction, one step (written by program) -/
section RZG
variable {Z : rx_Z} {d : Nat} {S : List Value} {L : rx_L} {σ : rx_S} {h : Nat → Option rx_E} {ι : Nat → Nat → Int32} {w : Nat × Nat} {a b t0 t1 t2 t3 t4 t5 t6 t7 t8 : Nat} {x y z s0 s1 s2 s3 s4 s5 s6 s7 s8 s9 s10 : Int32} {p q q0 q1 q2 q3 : Int64} {v v1 v2 v3 v4 v5 v6 v7 v8 v9 v10 : Value} {l0 l1 l2 l3 l4 l5 l6 l7 l8 l9 l10 l11 l12 l13 l14 : Option Value}
theorem g270_0 : rg Z d rx_m270 0 [some (.ref a), l1, l2, l3, l4, l5] S (rz_mk h ι, w) = rg Z d rx_m270 1 [some (.ref a), l1, l2, l3, l4, l5] (.ref a :: S) (rz_mk h ι, w) := rz_s1 fun _ => rfl
theorem g270_1 : rg Z d rx_m270 1 L S (rz_mk h ι, w) = rg Z d rx_m270 2 L (.int 0 :: S) (rz_mk h ι, w) := rz_s1 fun _ => rfl
theorem g270_2 (c : rz_fI h a 12 0) (hz : Z.2.1 ≤ a) : rg Z d rx_m270 2 L (.int x :: .ref a :: S) (rz_mk h ι, w) = rg Z d rx_m270 5 L S (rz_mk h (rz_up ι a 0 x), w) := rz_pI rfl c hz
theorem g270_5 : rg Z d rx_m270 5 [some (.ref a), l1, l2, l3, l4, l5] S (rz_mk h ι, w) = rg Z d rx_m270 6 [some (.ref a), l1, l2, l3, l4, l5] (.ref a :: S) (rz_mk h ι, w) := rz_s1 fun _ => rfl
theorem g270_6 : rg Z d rx_m270 6 [l0, some (.int x), l2, l3, l4, l5] S (rz_mk h ι, w) = rg Z d rx_m270 7 [l0, some (.int x), l2, l3, l4, l5] (.int x :: S) (rz_mk h ι, w) := rz_s1 fun _ => rfl
theorem g270_7 : rg Z d rx_m270 7 L S (rz_mk h ι, w) = rg Z d rx_m270 8 L (.int 0 :: S) (rz_mk h ι, w) := rz_s1 fun _ => rfl
theorem g270_8 : rg Z d rx_m270 8 L S (rz_mk h ι, w) = rg Z d rx_m270 9 L (.int 1 :: S) (rz_mk h ι, w) := rz_s1 fun _ => rfl
theorem g270_9 : rg Z d rx_m270 9 L (v3 :: v2 :: v1 :: [.ref t0]) (rz_mk h ι, w) = rz_k true (rz_f Z d 175 [v1, v2, v3] (rz_mk h ι, w)) (fun v σ' => rg Z d rx_m270 12 L (v.toList ++ [.ref t0]) σ') := rz_cs (pc := 9) (n := 3) (mi := 175) (S := v3 :: v2 :: v1 :: [.ref t0]) (rest := [.ref t0]) rfl rfl (Nat.le_of_ble_eq_true rfl) (Nat.le_of_ble_eq_true rfl)
theorem g270_12 : rg Z d rx_m270 12 L (.int x :: S) (rz_mk h ι, w) = if x = 0 then rg Z d rx_m270 15 L S (rz_mk h ι, w) else rg Z d rx_m270 19 L S (rz_mk h ι, w) := rz_if1 (pc := 12) (t := 19) (off := 7) (cc := .ne) (by decide) rfl
theorem g270_15 : rg Z d rx_m270 15 L S (rz_mk h ι, w) = rg Z d rx_m270 16 L (.int 1 :: S) (rz_mk h ι, w) := rz_s1 fun _ => rfl
theorem g270_16 : rg Z d rx_m270 16 L S (rz_mk h ι, w) = rg Z d rx_m270 20 L S (rz_mk h ι, w) := rz_s1 fun _ => rfl
theorem g270_19 : rg Z d rx_m270 19 L S (rz_mk h ι, w) = rg Z d rx_m270 20 L (.int 0 :: S) (rz_mk h ι, w) := rz_s1 fun _ => rfl
theorem g270_20 : rg Z d rx_m270 20 L S (rz_mk h ι, w) = rg Z d rx_m270 21 L (.int 1 :: S) (rz_mk h ι, w) := rz_s1 fun _ => rfl
theorem g270_21 : rg Z d rx_m270 21 L S (rz_mk h ι, w) = rg Z d rx_m270 22 L (.int 1 :: S) (rz_mk h ι, w) := rz_s1 fun _ => rfl
theorem g270_22 (c : rz_oc h a 12) : rg Z d rx_m270 22 L (v3 :: v2 :: v1 :: .ref a :: []) (rz_mk h ι, w) = rz_k true (rz_f Z d 174 [.ref a, v1, v2, v3] (rz_mk h ι, w)) (fun v σ' => rg Z d rx_m270 25 L (v.toList ++ []) σ') := rz_cv (pc := 22) (n := 3) (mi := 174) (S := v3 :: v2 :: v1 :: .ref a :: []) (rest := []) rfl rfl (Nat.le_of_ble_eq_true rfl) (Nat.le_of_ble_eq_true rfl) c
theorem g270_25 : rg Z d rx_m270 25 L (.int x :: S) (rz_mk h ι, w) = if x = 0 then rg Z d rx_m270 30 L S (rz_mk h ι, w) else rg Z d rx_m270 28 L S (rz_mk h ι, w) := rz_if1 (pc := 25) (t := 30) (off := 5) (cc := .eq) (by decide) rfl
theorem g270_28 : rg Z d rx_m270 28 L S (rz_mk h ι, w) = rg Z d rx_m270 29 L (.int 0 :: S) (rz_mk h ι, w) := rz_s1 fun _ => rfl
theorem g270_29 : rg Z d rx_m270 29 L [.int x] (rz_mk h ι, w) = some (.inl (some (.int x)), (rz_mk h ι, w)) := rz_reti rfl rfl rfl
theorem g270_30 : rg Z d rx_m270 30 L S (rz_mk h ι, w) = rg Z d rx_m270 31 L (.int 0 :: S) (rz_mk h ι, w) := rz_s1 fun _ => rfl
theorem g270_31 : rg Z d rx_m270 31 [l0, some (.int z), l2, l3, l4, l5] (.int x :: S) (rz_mk h ι, w) = rg Z d rx_m270 32 [l0, some (.int z), some (.int x), l3, l4, l5] S (rz_mk h ι, w) := rz_s1 fun _ => rfl
theorem g270_32 : rg Z d rx_m270 32 L S (rz_mk h ι, w) = rg Z d rx_m270 33 L (.int (-1) :: S) (rz_mk h ι, w) := rz_s1 fun _ => rfl
theorem g270_33 : rg Z d rx_m270 33 [l0, l1, some (.int z), l3, l4, l5] (.int x :: S) (rz_mk h ι, w) = rg Z d rx_m270 34 [l0, l1, some (.int z), some (.int x), l4, l5] S (rz_mk h ι, w) := rz_s1 fun _ => rfl
theorem g270_34 : rg Z d rx_m270 34 L S (rz_mk h ι, w) = rg Z d rx_m270 35 L (.int 0 :: S) (rz_mk h ι, w) := rz_s1 fun _ => rfl
theorem g270_35 : rg Z d rx_m270 35 [l0, l1, l2, some (.int z), l4, l5] (.int x :: S) (rz_mk h ι, w) = rg Z d rx_m270 37 [l0, l1, l2, some (.int z), some (.int x), l5] S (rz_mk h ι, w) := rz_s1 fun _ => rfl
theorem g270_37 : rg Z d rx_m270 37 [l0, l1, l2, l3, some (.int x), l5] S (rz_mk h ι, w) = rg Z d rx_m270 39 [l0, l1, l2, l3, some (.int x), l5] (.int x :: S) (rz_mk h ι, w) := rz_s1 fun _ => rfl
theorem g270_39 : rg Z d rx_m270 39 [some (.ref a), l1, l2, l3, l4, l5] S (rz_mk h ι, w) = rg Z d rx_m270 40 [some (.ref a), l1, l2, l3, l4, l5] (.ref a :: S) (rz_mk h ι, w) := rz_s1 fun _ => rfl
theorem g270_40 (c : rz_fR h a 12 25) : rg Z d rx_m270 40 L (.ref a :: S) (rz_mk h ι, w) = rg Z d rx_m270 43 L (rz_rv h a 25 :: S) (rz_mk h ι, w) := rz_gR rfl (by decide) c
theorem g270_43 : rg Z d rx_m270 43 L S (rz_mk h ι, w) = rg Z d rx_m270 45 L (.int 57 :: S) (rz_mk h ι, w) := rz_s1 fun _ => rfl
theorem g270_45 (c : rz_ar h a 0) (hi : rz_ix x (rz_ln h a)) : rg Z d rx_m270 45 L (.int x :: .ref a :: S) (rz_mk h ι, w) = rg Z d rx_m270 46 L (.int (ι a x.toNatClampNeg) :: S) (rz_mk h ι, w) := rz_iald rfl c hi
theorem g270_46 : rg Z d rx_m270 46 L (.int y :: .int x :: S) (rz_mk h ι, w) = if x < y then rg Z d rx_m270 49 L S (rz_mk h ι, w) else rg Z d rx_m270 137 L S (rz_mk h ι, w) := rz_if2 (pc := 46) (t := 137) (off := 91) (cc := .ge) (by decide) rfl
theorem g270_49 : rg Z d rx_m270 49 [l0, l1, l2, l3, some (.int x), l5] S (rz_mk h ι, w) = rg Z d rx_m270 51 [l0, l1, l2, l3, some (.int x), l5] (.int x :: S) (rz_mk h ι, w) := rz_s1 fun _ => rfl
theorem g270_51 : rg Z d rx_m270 51 L S (rz_mk h ι, w) = rg Z d rx_m270 52 L (.int 1 :: S) (rz_mk h ι, w) := rz_s1 fun _ => rfl
theorem g270_52 : rg Z d rx_m270 52 L (.int y :: .int x :: S) (rz_mk h ι, w) = rg Z d rx_m270 53 L (.int (x + y) :: S) (rz_mk h ι, w) := rz_s1 fun _ => rfl
theorem g270_53 : rg Z d rx_m270 53 [l0, l1, l2, l3, some (.int z), l5] (.int x :: S) (rz_mk h ι, w) = rg Z d rx_m270 55 [l0, l1, l2, l3, some (.int z), some (.int x)] S (rz_mk h ι, w) := rz_s1 fun _ => rfl
theorem g270_55 : rg Z d rx_m270 55 [l0, l1, l2, l3, l4, some (.int x)] S (rz_mk h ι, w) = rg Z d rx_m270 57 [l0, l1, l2, l3, l4, some (.int x)] (.int x :: S) (rz_mk h ι, w) := rz_s1 fun _ => rfl
theorem g270_57 : rg Z d rx_m270 57 [some (.ref a), l1, l2, l3, l4, l5] S (rz_mk h ι, w) = rg Z d rx_m270 58 [some (.ref a), l1, l2, l3, l4, l5] (.ref a :: S) (rz_mk h ι, w) := rz_s1 fun _ => rfl
theorem g270_58 (c : rz_fR h a 12 25) : rg Z d rx_m270 58 L (.ref a :: S) (rz_mk h ι, w) = rg Z d rx_m270 61 L (rz_rv h a 25 :: S) (rz_mk h ι, w) := rz_gR rfl (by decide) c
theorem g270_61 : rg Z d rx_m270 61 L S (rz_mk h ι, w) = rg Z d rx_m270 63 L (.int 57 :: S) (rz_mk h ι, w) := rz_s1 fun _ => rfl
theorem g270_63 (c : rz_ar h a 0) (hi : rz_ix x (rz_ln h a)) : rg Z d rx_m270 63 L (.int x :: .ref a :: S) (rz_mk h ι, w) = rg Z d rx_m270 64 L (.int (ι a x.toNatClampNeg) :: S) (rz_mk h ι, w) := rz_iald rfl c hi
theorem g270_64 : rg Z d rx_m270 64 L (.int y :: .int x :: S) (rz_mk h ι, w) = if x < y then rg Z d rx_m270 67 L S (rz_mk h ι, w) else rg Z d rx_m270 131 L S (rz_mk h ι, w) := rz_if2 (pc := 64) (t := 131) (off := 67) (cc := .ge) (by decide) rfl
theorem g270_67 : rg Z d rx_m270 67 [some (.ref a), l1, l2, l3, l4, l5] S (rz_mk h ι, w) = rg Z d rx_m270 68 [some (.ref a), l1, l2, l3, l4, l5] (.ref a :: S) (rz_mk h ι, w) := rz_s1 fun _ => rfl
theorem g270_68 (c : rz_fR h a 12 25) : rg Z d rx_m270 68 L (.ref a :: S) (rz_mk h ι, w) = rg Z d rx_m270 71 L (rz_rv h a 25 :: S) (rz_mk h ι, w) := rz_gR rfl (by decide) c
theorem g270_71 : rg Z d rx_m270 71 [l0, l1, l2, l3, some (.int x), l5] S (rz_mk h ι, w) = rg Z d rx_m270 73 [l0, l1, l2, l3, some (.int x), l5] (.int x :: S) (rz_mk h ι, w) := rz_s1 fun _ => rfl
theorem g270_73 : rg Z d rx_m270 73 L (v2 :: v1 :: []) (rz_mk h ι, w) = rz_k true (rz_f Z d 222 [v1, v2] (rz_mk h ι, w)) (fun v σ' => rg Z d rx_m270 76 L (v.toList ++ []) σ') := rz_cs (pc := 73) (n := 2) (mi := 222) (S := v2 :: v1 :: []) (rest := []) rfl rfl (Nat.le_of_ble_eq_true rfl) (Nat.le_of_ble_eq_true rfl)
theorem g270_76 : rg Z d rx_m270 76 L (.int x :: S) (rz_mk h ι, w) = if x = 0 then rg Z d rx_m270 125 L S (rz_mk h ι, w) else rg Z d rx_m270 79 L S (rz_mk h ι, w) := rz_if1 (pc := 76) (t := 125) (off := 49) (cc := .eq) (by decide) rfl
theorem g270_79 : rg Z d rx_m270 79 [some (.ref a), l1, l2, l3, l4, l5] S (rz_mk h ι, w) = rg Z d rx_m270 80 [some (.ref a), l1, l2, l3, l4, l5] (.ref a :: S) (rz_mk h ι, w) := rz_s1 fun _ => rfl
theorem g270_80 (c : rz_fR h a 12 25) : rg Z d rx_m270 80 L (.ref a :: S) (rz_mk h ι, w) = rg Z d rx_m270 83 L (rz_rv h a 25 :: S) (rz_mk h ι, w) := rz_gR rfl (by decide) c
theorem g270_83 : rg Z d rx_m270 83 [l0, l1, l2, l3, l4, some (.int x)] S (rz_mk h ι, w) = rg Z d rx_m270 85 [l0, l1, l2, l3, l4, some (.int x)] (.int x :: S) (rz_mk h ι, w) := rz_s1 fun _ => rfl
theorem g270_85 : rg Z d rx_m270 85 L (v2 :: v1 :: []) (rz_mk h ι, w) = rz_k true (rz_f Z d 222 [v1, v2] (rz_mk h ι, w)) (fun v σ' => rg Z d rx_m270 88 L (v.toList ++ []) σ') := rz_cs (pc := 85) (n := 2) (mi := 222) (S := v2 :: v1 :: []) (rest := []) rfl rfl (Nat.le_of_ble_eq_true rfl) (Nat.le_of_ble_eq_true rfl)
theorem g270_88 : rg Z d rx_m270 88 L (.int x :: S) (rz_mk h ι, w) = if x = 0 then rg Z d rx_m270 125 L S (rz_mk h ι, w) else rg Z d rx_m270 91 L S (rz_mk h ι, w) := rz_if1 (pc := 88) (t := 125) (off := 37) (cc := .eq) (by decide) rfl
theorem g270_91 : rg Z d rx_m270 91 [some (.ref a), l1, l2, l3, l4, l5] S (rz_mk h ι, w) = rg Z d rx_m270 92 [some (.ref a), l1, l2, l3, l4, l5] (.ref a :: S) (rz_mk h ι, w) := rz_s1 fun _ => rfl
theorem g270_92 : rg Z d rx_m270 92 [l0, l1, l2, l3, some (.int x), l5] S (rz_mk h ι, w) = rg Z d rx_m270 94 [l0, l1, l2, l3, some (.int x), l5] (.int x :: S) (rz_mk h ι, w) := rz_s1 fun _ => rfl
theorem g270_94 : rg Z d rx_m270 94 [l0, l1, l2, l3, l4, some (.int x)] S (rz_mk h ι, w) = rg Z d rx_m270 96 [l0, l1, l2, l3, l4, some (.int x)] (.int x :: S) (rz_mk h ι, w) := rz_s1 fun _ => rfl
theorem g270_96 (c : rz_oc h a 12) : rg Z d rx_m270 96 L (v2 :: v1 :: .ref a :: []) (rz_mk h ι, w) = rz_k true (rz_f Z d 269 [.ref a, v1, v2] (rz_mk h ι, w)) (fun v σ' => rg Z d rx_m270 99 L (v.toList ++ []) σ') := rz_cv (pc := 96) (n := 2) (mi := 269) (S := v2 :: v1 :: .ref a :: []) (rest := []) rfl rfl (Nat.le_of_ble_eq_true rfl) (Nat.le_of_ble_eq_true rfl) c
theorem g270_99 : rg Z d rx_m270 99 L (.int x :: S) (rz_mk h ι, w) = if x = 0 then rg Z d rx_m270 102 L S (rz_mk h ι, w) else rg Z d rx_m270 105 L S (rz_mk h ι, w) := rz_if1 (pc := 99) (t := 105) (off := 6) (cc := .ne) (by decide) rfl
theorem g270_102 : rg Z d rx_m270 102 L S (rz_mk h ι, w) = rg Z d rx_m270 125 L S (rz_mk h ι, w) := rz_s1 fun _ => rfl
theorem g270_105 : rg Z d rx_m270 105 [l0, l1, some (.int x), l3, l4, l5] S (rz_mk h ι, w) = rg Z d rx_m270 106 [l0, l1, some (.int x), l3, l4, l5] (.int x :: S) (rz_mk h ι, w) := rz_s1 fun _ => rfl
theorem g270_106 : rg Z d rx_m270 106 L (.int x :: S) (rz_mk h ι, w) = if x = 0 then rg Z d rx_m270 109 L S (rz_mk h ι, w) else rg Z d rx_m270 120 L S (rz_mk h ι, w) := rz_if1 (pc := 106) (t := 120) (off := 14) (cc := .ne) (by decide) rfl
theorem g270_109 : rg Z d rx_m270 109 L S (rz_mk h ι, w) = rg Z d rx_m270 111 L (.int 10 :: S) (rz_mk h ι, w) := rz_s1 fun _ => rfl
theorem g270_111 : rg Z d rx_m270 111 [l0, l1, l2, l3, some (.int x), l5] S (rz_mk h ι, w) = rg Z d rx_m270 113 [l0, l1, l2, l3, some (.int x), l5] (.int x :: S) (rz_mk h ι, w) := rz_s1 fun _ => rfl
theorem g270_113 : rg Z d rx_m270 113 L (.int y :: .int x :: S) (rz_mk h ι, w) = rg Z d rx_m270 114 L (.int (x * y) :: S) (rz_mk h ι, w) := rz_s1 fun _ => rfl
theorem g270_114 : rg Z d rx_m270 114 [l0, l1, l2, l3, l4, some (.int x)] S (rz_mk h ι, w) = rg Z d rx_m270 116 [l0, l1, l2, l3, l4, some (.int x)] (.int x :: S) (rz_mk h ι, w) := rz_s1 fun _ => rfl
theorem g270_116 : rg Z d rx_m270 116 L (.int y :: .int x :: S) (rz_mk h ι, w) = rg Z d rx_m270 117 L (.int (x + y) :: S) (rz_mk h ι, w) := rz_s1 fun _ => rfl
theorem g270_117 : rg Z d rx_m270 117 L S (rz_mk h ι, w) = rg Z d rx_m270 121 L S (rz_mk h ι, w) := rz_s1 fun _ => rfl
theorem g270_120 : rg Z d rx_m270 120 [l0, l1, l2, some (.int x), l4, l5] S (rz_mk h ι, w) = rg Z d rx_m270 121 [l0, l1, l2, some (.int x), l4, l5] (.int x :: S) (rz_mk h ι, w) := rz_s1 fun _ => rfl
theorem g270_121 : rg Z d rx_m270 121 [l0, l1, some (.int z), l3, l4, l5] (.int x :: S) (rz_mk h ι, w) = rg Z d rx_m270 122 [l0, l1, some (.int z), some (.int x), l4, l5] S (rz_mk h ι, w) := rz_s1 fun _ => rfl
theorem g270_122 : rg Z d rx_m270 122 [l0, some (.int z), some (.int x), l3, l4, l5] S (rz_mk h ι, w) = rg Z d rx_m270 125 [l0, some (.int z), some (.int (x + 1)), l3, l4, l5] S (rz_mk h ι, w) := rz_s1 fun _ => rfl
theorem g270_125 : rg Z d rx_m270 125 [l0, l1, l2, l3, some (.int z), some (.int x)] S (rz_mk h ι, w) = rg Z d rx_m270 128 [l0, l1, l2, l3, some (.int z), some (.int (x + 1))] S (rz_mk h ι, w) := rz_s1 fun _ => rfl
theorem g270_128 : rg Z d rx_m270 128 L S (rz_mk h ι, w) = rg Z d rx_m270 55 L S (rz_mk h ι, w) := rz_s1 fun _ => rfl
theorem g270_131 : rg Z d rx_m270 131 [l0, l1, l2, some (.int z), some (.int x), l5] S (rz_mk h ι, w) = rg Z d rx_m270 134 [l0, l1, l2, some (.int z), some (.int (x + 1)), l5] S (rz_mk h ι, w) := rz_s1 fun _ => rfl
theorem g270_134 : rg Z d rx_m270 134 L S (rz_mk h ι, w) = rg Z d rx_m270 37 L S (rz_mk h ι, w) := rz_s1 fun _ => rfl
theorem g270_137 : rg Z d rx_m270 137 [l0, some (.int x), l2, l3, l4, l5] S (rz_mk h ι, w) = rg Z d rx_m270 138 [l0, some (.int x), l2, l3, l4, l5] (.int x :: S) (rz_mk h ι, w) := rz_s1 fun _ => rfl
theorem g270_138 : rg Z d rx_m270 138 L (.int x :: S) (rz_mk h ι, w) = if x = 0 then rg Z d rx_m270 141 L S (rz_mk h ι, w) else rg Z d rx_m270 145 L S (rz_mk h ι, w) := rz_if1 (pc := 138) (t := 145) (off := 7) (cc := .ne) (by decide) rfl
theorem g270_141 : rg Z d rx_m270 141 [l0, l1, some (.int x), l3, l4, l5] S (rz_mk h ι, w) = rg Z d rx_m270 142 [l0, l1, some (.int x), l3, l4, l5] (.int x :: S) (rz_mk h ι, w) := rz_s1 fun _ => rfl
theorem g270_142 : rg Z d rx_m270 142 L S (rz_mk h ι, w) = rg Z d rx_m270 146 L S (rz_mk h ι, w) := rz_s1 fun _ => rfl
theorem g270_145 : rg Z d rx_m270 145 [l0, l1, l2, some (.int x), l4, l5] S (rz_mk h ι, w) = rg Z d rx_m270 146 [l0, l1, l2, some (.int x), l4, l5] (.int x :: S) (rz_mk h ι, w) := rz_s1 fun _ => rfl
theorem g270_146 : rg Z d rx_m270 146 L [.int x] (rz_mk h ι, w) = some (.inl (some (.int x)), (rz_mk h ι, w)) := rz_reti rfl rfl rfl
theorem e270 : rz_f Z (d + 1) 270 [.ref t0, .int s1] σ = rg Z d rx_m270 0 [some (.ref t0), some (.int s1), none, none, none, none] [] σ := rz_f_eq rfl (Nat.le_of_ble_eq_true rfl)
theorem g271_0 : rg Z d rx_m271 0 [some (.ref a), l1, l2, l3, l4] S (rz_mk h ι, w) = rg Z d rx_m271 1 [some (.ref a), l1, l2, l3, l4] (.ref a :: S) (rz_mk h ι, w) := rz_s1 fun _ => rfl
theorem g271_1 : rg Z d rx_m271 1 L S (rz_mk h ι, w) = rg Z d rx_m271 2 L (.int 0 :: S) (rz_mk h ι, w) := rz_s1 fun _ => rfl
theorem g271_2 (c : rz_fI h a 12 0) (hz : Z.2.1 ≤ a) : rg Z d rx_m271 2 L (.int x :: .ref a :: S) (rz_mk h ι, w) = rg Z d rx_m271 5 L S (rz_mk h (rz_up ι a 0 x), w) := rz_pI rfl c hz
theorem g271_5 : rg Z d rx_m271 5 [some (.ref a), l1, l2, l3, l4] S (rz_mk h ι, w) = rg Z d rx_m271 6 [some (.ref a), l1, l2, l3, l4] (.ref a :: S) (rz_mk h ι, w) := rz_s1 fun _ => rfl
theorem g271_6 : rg Z d rx_m271 6 [some (.ref a), l1, l2, l3, l4] S (rz_mk h ι, w) = rg Z d rx_m271 7 [some (.ref a), l1, l2, l3, l4] (.ref a :: S) (rz_mk h ι, w) := rz_s1 fun _ => rfl
theorem g271_7 : rg Z d rx_m271 7 [l0, some (.int x), l2, l3, l4] S (rz_mk h ι, w) = rg Z d rx_m271 8 [l0, some (.int x), l2, l3, l4] (.int x :: S) (rz_mk h ι, w) := rz_s1 fun _ => rfl
theorem g271_8 (c : rz_oc h a 12) : rg Z d rx_m271 8 L (v1 :: .ref a :: [.ref t0]) (rz_mk h ι, w) = rz_k true (rz_f Z d 236 [.ref a, v1] (rz_mk h ι, w)) (fun v σ' => rg Z d rx_m271 11 L (v.toList ++ [.ref t0]) σ') := rz_cv (pc := 8) (n := 1) (mi := 236) (S := v1 :: .ref a :: [.ref t0]) (rest := [.ref t0]) rfl rfl (Nat.le_of_ble_eq_true rfl) (Nat.le_of_ble_eq_true rfl) c
theorem g271_11 : rg Z d rx_m271 11 L (.int x :: S) (rz_mk h ι, w) = if x = 0 then rg Z d rx_m271 14 L S (rz_mk h ι, w) else rg Z d rx_m271 18 L S (rz_mk h ι, w) := rz_if1 (pc := 11) (t := 18) (off := 7) (cc := .ne) (by decide) rfl
theorem g271_14 : rg Z d rx_m271 14 L S (rz_mk h ι, w) = rg Z d rx_m271 15 L (.int 1 :: S) (rz_mk h ι, w) := rz_s1 fun _ => rfl
theorem g271_15 : rg Z d rx_m271 15 L S (rz_mk h ι, w) = rg Z d rx_m271 19 L S (rz_mk h ι, w) := rz_s1 fun _ => rfl
theorem g271_18 : rg Z d rx_m271 18 L S (rz_mk h ι, w) = rg Z d rx_m271 19 L (.int 0 :: S) (rz_mk h ι, w) := rz_s1 fun _ => rfl
theorem g271_19 : rg Z d rx_m271 19 L S (rz_mk h ι, w) = rg Z d rx_m271 20 L (.int 1 :: S) (rz_mk h ι, w) := rz_s1 fun _ => rfl
theorem g271_20 : rg Z d rx_m271 20 L S (rz_mk h ι, w) = rg Z d rx_m271 21 L (.int 0 :: S) (rz_mk h ι, w) := rz_s1 fun _ => rfl
theorem g271_21 (c : rz_oc h a 12) : rg Z d rx_m271 21 L (v3 :: v2 :: v1 :: .ref a :: []) (rz_mk h ι, w) = rz_k true (rz_f Z d 174 [.ref a, v1, v2, v3] (rz_mk h ι, w)) (fun v σ' => rg Z d rx_m271 24 L (v.toList ++ []) σ') := rz_cv (pc := 21) (n := 3) (mi := 174) (S := v3 :: v2 :: v1 :: .ref a :: []) (rest := []) rfl rfl (Nat.le_of_ble_eq_true rfl) (Nat.le_of_ble_eq_true rfl) c
theorem g271_24 : rg Z d rx_m271 24 L (.int x :: S) (rz_mk h ι, w) = if x = 0 then rg Z d rx_m271 27 L S (rz_mk h ι, w) else rg Z d rx_m271 51 L S (rz_mk h ι, w) := rz_if1 (pc := 24) (t := 51) (off := 27) (cc := .ne) (by decide) rfl
theorem g271_27 : rg Z d rx_m271 27 [some (.ref a), l1, l2, l3, l4] S (rz_mk h ι, w) = rg Z d rx_m271 28 [some (.ref a), l1, l2, l3, l4] (.ref a :: S) (rz_mk h ι, w) := rz_s1 fun _ => rfl
theorem g271_28 : rg Z d rx_m271 28 [l0, l1, some (.int x), l3, l4] S (rz_mk h ι, w) = rg Z d rx_m271 29 [l0, l1, some (.int x), l3, l4] (.int x :: S) (rz_mk h ι, w) := rz_s1 fun _ => rfl
theorem g271_29 : rg Z d rx_m271 29 L S (rz_mk h ι, w) = rg Z d rx_m271 30 L (.int 0 :: S) (rz_mk h ι, w) := rz_s1 fun _ => rfl
theorem g271_30 : rg Z d rx_m271 30 L S (rz_mk h ι, w) = rg Z d rx_m271 32 L (.int 99 :: S) (rz_mk h ι, w) := rz_s1 fun _ => rfl
theorem g271_32 : rg Z d rx_m271 32 L (v3 :: v2 :: v1 :: [.ref t0]) (rz_mk h ι, w) = rz_k true (rz_f Z d 175 [v1, v2, v3] (rz_mk h ι, w)) (fun v σ' => rg Z d rx_m271 35 L (v.toList ++ [.ref t0]) σ') := rz_cs (pc := 32) (n := 3) (mi := 175) (S := v3 :: v2 :: v1 :: [.ref t0]) (rest := [.ref t0]) rfl rfl (Nat.le_of_ble_eq_true rfl) (Nat.le_of_ble_eq_true rfl)
theorem g271_35 : rg Z d rx_m271 35 L (.int x :: S) (rz_mk h ι, w) = if x = 0 then rg Z d rx_m271 38 L S (rz_mk h ι, w) else rg Z d rx_m271 42 L S (rz_mk h ι, w) := rz_if1 (pc := 35) (t := 42) (off := 7) (cc := .ne) (by decide) rfl
theorem g271_38 : rg Z d rx_m271 38 L S (rz_mk h ι, w) = rg Z d rx_m271 39 L (.int 1 :: S) (rz_mk h ι, w) := rz_s1 fun _ => rfl
theorem g271_39 : rg Z d rx_m271 39 L S (rz_mk h ι, w) = rg Z d rx_m271 43 L S (rz_mk h ι, w) := rz_s1 fun _ => rfl
theorem g271_42 : rg Z d rx_m271 42 L S (rz_mk h ι, w) = rg Z d rx_m271 43 L (.int 0 :: S) (rz_mk h ι, w) := rz_s1 fun _ => rfl
theorem g271_43 : rg Z d rx_m271 43 L S (rz_mk h ι, w) = rg Z d rx_m271 44 L (.int 2 :: S) (rz_mk h ι, w) := rz_s1 fun _ => rfl
theorem g271_44 : rg Z d rx_m271 44 L S (rz_mk h ι, w) = rg Z d rx_m271 45 L (.int 1 :: S) (rz_mk h ι, w) := rz_s1 fun _ => rfl
theorem g271_45 (c : rz_oc h a 12) : rg Z d rx_m271 45 L (v3 :: v2 :: v1 :: .ref a :: []) (rz_mk h ι, w) = rz_k true (rz_f Z d 174 [.ref a, v1, v2, v3] (rz_mk h ι, w)) (fun v σ' => rg Z d rx_m271 48 L (v.toList ++ []) σ') := rz_cv (pc := 45) (n := 3) (mi := 174) (S := v3 :: v2 :: v1 :: .ref a :: []) (rest := []) rfl rfl (Nat.le_of_ble_eq_true rfl) (Nat.le_of_ble_eq_true rfl) c
theorem g271_48 : rg Z d rx_m271 48 L (.int x :: S) (rz_mk h ι, w) = if x = 0 then rg Z d rx_m271 53 L S (rz_mk h ι, w) else rg Z d rx_m271 51 L S (rz_mk h ι, w) := rz_if1 (pc := 48) (t := 53) (off := 5) (cc := .eq) (by decide) rfl
theorem g271_51 : rg Z d rx_m271 51 L S (rz_mk h ι, w) = rg Z d rx_m271 52 L (.int 0 :: S) (rz_mk h ι, w) := rz_s1 fun _ => rfl
theorem g271_52 : rg Z d rx_m271 52 L [.int x] (rz_mk h ι, w) = some (.inl (some (.int x)), (rz_mk h ι, w)) := rz_reti rfl rfl rfl
theorem g271_53 : rg Z d rx_m271 53 L S (rz_mk h ι, w) = rg Z d rx_m271 54 L (.int 0 :: S) (rz_mk h ι, w) := rz_s1 fun _ => rfl
theorem g271_54 : rg Z d rx_m271 54 [l0, l1, some (.int z), l3, l4] (.int x :: S) (rz_mk h ι, w) = rg Z d rx_m271 55 [l0, l1, some (.int z), some (.int x), l4] S (rz_mk h ι, w) := rz_s1 fun _ => rfl
theorem g271_55 : rg Z d rx_m271 55 L S (rz_mk h ι, w) = rg Z d rx_m271 56 L (.int 0 :: S) (rz_mk h ι, w) := rz_s1 fun _ => rfl
theorem g271_56 : rg Z d rx_m271 56 [l0, l1, l2, some (.int z), l4] (.int x :: S) (rz_mk h ι, w) = rg Z d rx_m271 58 [l0, l1, l2, some (.int z), some (.int x)] S (rz_mk h ι, w) := rz_s1 fun _ => rfl
theorem g271_58 : rg Z d rx_m271 58 [l0, l1, l2, l3, some (.int x)] S (rz_mk h ι, w) = rg Z d rx_m271 60 [l0, l1, l2, l3, some (.int x)] (.int x :: S) (rz_mk h ι, w) := rz_s1 fun _ => rfl
theorem g271_60 : rg Z d rx_m271 60 [some (.ref a), l1, l2, l3, l4] S (rz_mk h ι, w) = rg Z d rx_m271 61 [some (.ref a), l1, l2, l3, l4] (.ref a :: S) (rz_mk h ι, w) := rz_s1 fun _ => rfl
theorem g271_61 (c : rz_fR h a 12 25) : rg Z d rx_m271 61 L (.ref a :: S) (rz_mk h ι, w) = rg Z d rx_m271 64 L (rz_rv h a 25 :: S) (rz_mk h ι, w) := rz_gR rfl (by decide) c
theorem g271_64 : rg Z d rx_m271 64 L S (rz_mk h ι, w) = rg Z d rx_m271 66 L (.int 57 :: S) (rz_mk h ι, w) := rz_s1 fun _ => rfl
theorem g271_66 (c : rz_ar h a 0) (hi : rz_ix x (rz_ln h a)) : rg Z d rx_m271 66 L (.int x :: .ref a :: S) (rz_mk h ι, w) = rg Z d rx_m271 67 L (.int (ι a x.toNatClampNeg) :: S) (rz_mk h ι, w) := rz_iald rfl c hi
theorem g271_67 : rg Z d rx_m271 67 L (.int y :: .int x :: S) (rz_mk h ι, w) = if x < y then rg Z d rx_m271 70 L S (rz_mk h ι, w) else rg Z d rx_m271 120 L S (rz_mk h ι, w) := rz_if2 (pc := 67) (t := 120) (off := 53) (cc := .ge) (by decide) rfl
theorem g271_70 : rg Z d rx_m271 70 [l0, l1, l2, some (.int x), l4] S (rz_mk h ι, w) = rg Z d rx_m271 71 [l0, l1, l2, some (.int x), l4] (.int x :: S) (rz_mk h ι, w) := rz_s1 fun _ => rfl
theorem g271_71 : rg Z d rx_m271 71 [l0, l1, l2, l3, some (.int x)] S (rz_mk h ι, w) = rg Z d rx_m271 73 [l0, l1, l2, l3, some (.int x)] (.int x :: S) (rz_mk h ι, w) := rz_s1 fun _ => rfl
theorem g271_73 : rg Z d rx_m271 73 [l0, some (.int x), l2, l3, l4] S (rz_mk h ι, w) = rg Z d rx_m271 74 [l0, some (.int x), l2, l3, l4] (.int x :: S) (rz_mk h ι, w) := rz_s1 fun _ => rfl
theorem g271_74 : rg Z d rx_m271 74 L (.int y :: .int x :: S) (rz_mk h ι, w) = if x = y then rg Z d rx_m271 111 L S (rz_mk h ι, w) else rg Z d rx_m271 77 L S (rz_mk h ι, w) := rz_if2 (pc := 74) (t := 111) (off := 37) (cc := .eq) (by decide) rfl
theorem g271_77 : rg Z d rx_m271 77 [some (.ref a), l1, l2, l3, l4] S (rz_mk h ι, w) = rg Z d rx_m271 78 [some (.ref a), l1, l2, l3, l4] (.ref a :: S) (rz_mk h ι, w) := rz_s1 fun _ => rfl
theorem g271_78 (c : rz_fR h a 12 25) : rg Z d rx_m271 78 L (.ref a :: S) (rz_mk h ι, w) = rg Z d rx_m271 81 L (rz_rv h a 25 :: S) (rz_mk h ι, w) := rz_gR rfl (by decide) c
theorem g271_81 : rg Z d rx_m271 81 [l0, l1, l2, l3, some (.int x)] S (rz_mk h ι, w) = rg Z d rx_m271 83 [l0, l1, l2, l3, some (.int x)] (.int x :: S) (rz_mk h ι, w) := rz_s1 fun _ => rfl
theorem g271_83 : rg Z d rx_m271 83 L (v2 :: v1 :: [.int s0]) (rz_mk h ι, w) = rz_k true (rz_f Z d 222 [v1, v2] (rz_mk h ι, w)) (fun v σ' => rg Z d rx_m271 86 L (v.toList ++ [.int s0]) σ') := rz_cs (pc := 83) (n := 2) (mi := 222) (S := v2 :: v1 :: [.int s0]) (rest := [.int s0]) rfl rfl (Nat.le_of_ble_eq_true rfl) (Nat.le_of_ble_eq_true rfl)
theorem g271_86 : rg Z d rx_m271 86 L (.int x :: S) (rz_mk h ι, w) = if x = 0 then rg Z d rx_m271 111 L S (rz_mk h ι, w) else rg Z d rx_m271 89 L S (rz_mk h ι, w) := rz_if1 (pc := 86) (t := 111) (off := 25) (cc := .eq) (by decide) rfl
theorem g271_89 : rg Z d rx_m271 89 [some (.ref a), l1, l2, l3, l4] S (rz_mk h ι, w) = rg Z d rx_m271 90 [some (.ref a), l1, l2, l3, l4] (.ref a :: S) (rz_mk h ι, w) := rz_s1 fun _ => rfl
theorem g271_90 : rg Z d rx_m271 90 [some (.ref a), l1, l2, l3, l4] S (rz_mk h ι, w) = rg Z d rx_m271 91 [some (.ref a), l1, l2, l3, l4] (.ref a :: S) (rz_mk h ι, w) := rz_s1 fun _ => rfl
theorem g271_91 (c : rz_fR h a 12 25) : rg Z d rx_m271 91 L (.ref a :: S) (rz_mk h ι, w) = rg Z d rx_m271 94 L (rz_rv h a 25 :: S) (rz_mk h ι, w) := rz_gR rfl (by decide) c
theorem g271_94 : rg Z d rx_m271 94 [l0, l1, l2, l3, some (.int x)] S (rz_mk h ι, w) = rg Z d rx_m271 96 [l0, l1, l2, l3, some (.int x)] (.int x :: S) (rz_mk h ι, w) := rz_s1 fun _ => rfl
theorem g271_96 : rg Z d rx_m271 96 [l0, some (.int x), l2, l3, l4] S (rz_mk h ι, w) = rg Z d rx_m271 97 [l0, some (.int x), l2, l3, l4] (.int x :: S) (rz_mk h ι, w) := rz_s1 fun _ => rfl
theorem g271_97 (c : rz_oc h a 12) : rg Z d rx_m271 97 L (v3 :: v2 :: v1 :: .ref a :: [.int s0]) (rz_mk h ι, w) = rz_k true (rz_f Z d 221 [.ref a, v1, v2, v3] (rz_mk h ι, w)) (fun v σ' => rg Z d rx_m271 100 L (v.toList ++ [.int s0]) σ') := rz_cv (pc := 97) (n := 3) (mi := 221) (S := v3 :: v2 :: v1 :: .ref a :: [.int s0]) (rest := [.int s0]) rfl rfl (Nat.le_of_ble_eq_true rfl) (Nat.le_of_ble_eq_true rfl) c
theorem g271_100 : rg Z d rx_m271 100 [l0, l1, some (.int x), l3, l4] S (rz_mk h ι, w) = rg Z d rx_m271 101 [l0, l1, some (.int x), l3, l4] (.int x :: S) (rz_mk h ι, w) := rz_s1 fun _ => rfl
theorem g271_101 : rg Z d rx_m271 101 L (.int y :: .int x :: S) (rz_mk h ι, w) = if x < y then rg Z d rx_m271 111 L S (rz_mk h ι, w) else rg Z d rx_m271 104 L S (rz_mk h ι, w) := rz_if2 (pc := 101) (t := 111) (off := 10) (cc := .lt) (by decide) rfl
theorem g271_104 : rg Z d rx_m271 104 L S (rz_mk h ι, w) = rg Z d rx_m271 105 L (.int 1 :: S) (rz_mk h ι, w) := rz_s1 fun _ => rfl
theorem g271_105 : rg Z d rx_m271 105 [l0, l1, l2, l3, some (.int x)] S (rz_mk h ι, w) = rg Z d rx_m271 107 [l0, l1, l2, l3, some (.int x)] (.int x :: S) (rz_mk h ι, w) := rz_s1 fun _ => rfl
theorem g271_107 : rg Z d rx_m271 107 L (.int y :: .int x :: S) (rz_mk h ι, w) = rg Z d rx_m271 108 L (.int (x <<< (y &&& 31)) :: S) (rz_mk h ι, w) := rz_s1 fun _ => rfl
theorem g271_108 : rg Z d rx_m271 108 L S (rz_mk h ι, w) = rg Z d rx_m271 112 L S (rz_mk h ι, w) := rz_s1 fun _ => rfl
theorem g271_111 : rg Z d rx_m271 111 L S (rz_mk h ι, w) = rg Z d rx_m271 112 L (.int 0 :: S) (rz_mk h ι, w) := rz_s1 fun _ => rfl
theorem g271_112 : rg Z d rx_m271 112 L (.int y :: .int x :: S) (rz_mk h ι, w) = rg Z d rx_m271 113 L (.int (x ||| y) :: S) (rz_mk h ι, w) := rz_s1 fun _ => rfl
theorem g271_113 : rg Z d rx_m271 113 [l0, l1, some (.int z), l3, l4] (.int x :: S) (rz_mk h ι, w) = rg Z d rx_m271 114 [l0, l1, some (.int z), some (.int x), l4] S (rz_mk h ι, w) := rz_s1 fun _ => rfl
theorem g271_114 : rg Z d rx_m271 114 [l0, l1, l2, some (.int z), some (.int x)] S (rz_mk h ι, w) = rg Z d rx_m271 117 [l0, l1, l2, some (.int z), some (.int (x + 1))] S (rz_mk h ι, w) := rz_s1 fun _ => rfl
theorem g271_117 : rg Z d rx_m271 117 L S (rz_mk h ι, w) = rg Z d rx_m271 58 L S (rz_mk h ι, w) := rz_s1 fun _ => rfl
theorem g271_120 : rg Z d rx_m271 120 [l0, l1, l2, some (.int x), l4] S (rz_mk h ι, w) = rg Z d rx_m271 121 [l0, l1, l2, some (.int x), l4] (.int x :: S) (rz_mk h ι, w) := rz_s1 fun _ => rfl
theorem g271_121 : rg Z d rx_m271 121 L [.int x] (rz_mk h ι, w) = some (.inl (some (.int x)), (rz_mk h ι, w)) := rz_reti rfl rfl rfl
theorem e271 : rz_f Z (d + 1) 271 [.ref t0, .int s1, .int s2] σ = rg Z d rx_m271 0 [some (.ref t0), some (.int s1), some (.int s2), none, none] [] σ := rz_f_eq rfl (Nat.le_of_ble_eq_true rfl)
theorem g272_0 : rg Z d rx_m272 0 [some (.ref a), l1, l2, l3] S (rz_mk h ι, w) = rg Z d rx_m272 1 [some (.ref a), l1, l2, l3] (.ref a :: S) (rz_mk h ι, w) := rz_s1 fun _ => rfl
theorem g272_1 : rg Z d rx_m272 1 L S (rz_mk h ι, w) = rg Z d rx_m272 2 L (.int 0 :: S) (rz_mk h ι, w) := rz_s1 fun _ => rfl
theorem g272_2 (c : rz_fI h a 12 0) (hz : Z.2.1 ≤ a) : rg Z d rx_m272 2 L (.int x :: .ref a :: S) (rz_mk h ι, w) = rg Z d rx_m272 5 L S (rz_mk h (rz_up ι a 0 x), w) := rz_pI rfl c hz
theorem g272_5 : rg Z d rx_m272 5 [some (.ref a), l1, l2, l3] S (rz_mk h ι, w) = rg Z d rx_m272 6 [some (.ref a), l1, l2, l3] (.ref a :: S) (rz_mk h ι, w) := rz_s1 fun _ => rfl
theorem g272_6 : rg Z d rx_m272 6 [l0, some (.int x), l2, l3] S (rz_mk h ι, w) = rg Z d rx_m272 7 [l0, some (.int x), l2, l3] (.int x :: S) (rz_mk h ι, w) := rz_s1 fun _ => rfl
theorem g272_7 : rg Z d rx_m272 7 L S (rz_mk h ι, w) = rg Z d rx_m272 8 L (.int 0 :: S) (rz_mk h ι, w) := rz_s1 fun _ => rfl
theorem g272_8 : rg Z d rx_m272 8 L S (rz_mk h ι, w) = rg Z d rx_m272 9 L (.int 1 :: S) (rz_mk h ι, w) := rz_s1 fun _ => rfl
theorem g272_9 : rg Z d rx_m272 9 L (v3 :: v2 :: v1 :: [.ref t0]) (rz_mk h ι, w) = rz_k true (rz_f Z d 175 [v1, v2, v3] (rz_mk h ι, w)) (fun v σ' => rg Z d rx_m272 12 L (v.toList ++ [.ref t0]) σ') := rz_cs (pc := 9) (n := 3) (mi := 175) (S := v3 :: v2 :: v1 :: [.ref t0]) (rest := [.ref t0]) rfl rfl (Nat.le_of_ble_eq_true rfl) (Nat.le_of_ble_eq_true rfl)
theorem g272_12 : rg Z d rx_m272 12 L (.int x :: S) (rz_mk h ι, w) = if x = 0 then rg Z d rx_m272 15 L S (rz_mk h ι, w) else rg Z d rx_m272 19 L S (rz_mk h ι, w) := rz_if1 (pc := 12) (t := 19) (off := 7) (cc := .ne) (by decide) rfl
theorem g272_15 : rg Z d rx_m272 15 L S (rz_mk h ι, w) = rg Z d rx_m272 16 L (.int 1 :: S) (rz_mk h ι, w) := rz_s1 fun _ => rfl
theorem g272_16 : rg Z d rx_m272 16 L S (rz_mk h ι, w) = rg Z d rx_m272 20 L S (rz_mk h ι, w) := rz_s1 fun _ => rfl
theorem g272_19 : rg Z d rx_m272 19 L S (rz_mk h ι, w) = rg Z d rx_m272 20 L (.int 0 :: S) (rz_mk h ι, w) := rz_s1 fun _ => rfl
theorem g272_20 : rg Z d rx_m272 20 L S (rz_mk h ι, w) = rg Z d rx_m272 21 L (.int 1 :: S) (rz_mk h ι, w) := rz_s1 fun _ => rfl
theorem g272_21 : rg Z d rx_m272 21 L S (rz_mk h ι, w) = rg Z d rx_m272 22 L (.int 1 :: S) (rz_mk h ι, w) := rz_s1 fun _ => rfl
theorem g272_22 (c : rz_oc h a 12) : rg Z d rx_m272 22 L (v3 :: v2 :: v1 :: .ref a :: []) (rz_mk h ι, w) = rz_k true (rz_f Z d 174 [.ref a, v1, v2, v3] (rz_mk h ι, w)) (fun v σ' => rg Z d rx_m272 25 L (v.toList ++ []) σ') := rz_cv (pc := 22) (n := 3) (mi := 174) (S := v3 :: v2 :: v1 :: .ref a :: []) (rest := []) rfl rfl (Nat.le_of_ble_eq_true rfl) (Nat.le_of_ble_eq_true rfl) c
theorem g272_25 : rg Z d rx_m272 25 L (.int x :: S) (rz_mk h ι, w) = if x = 0 then rg Z d rx_m272 30 L S (rz_mk h ι, w) else rg Z d rx_m272 28 L S (rz_mk h ι, w) := rz_if1 (pc := 25) (t := 30) (off := 5) (cc := .eq) (by decide) rfl
theorem g272_28 : rg Z d rx_m272 28 L S (rz_mk h ι, w) = rg Z d rx_m272 29 L (.int 0 :: S) (rz_mk h ι, w) := rz_s1 fun _ => rfl
theorem g272_29 : rg Z d rx_m272 29 L [.int x] (rz_mk h ι, w) = some (.inl (some (.int x)), (rz_mk h ι, w)) := rz_reti rfl rfl rfl
theorem g272_30 : rg Z d rx_m272 30 L S (rz_mk h ι, w) = rg Z d rx_m272 31 L (.int (-1) :: S) (rz_mk h ι, w) := rz_s1 fun _ => rfl
theorem g272_31 : rg Z d rx_m272 31 [l0, some (.int z), l2, l3] (.int x :: S) (rz_mk h ι, w) = rg Z d rx_m272 32 [l0, some (.int z), some (.int x), l3] S (rz_mk h ι, w) := rz_s1 fun _ => rfl
theorem g272_32 : rg Z d rx_m272 32 L S (rz_mk h ι, w) = rg Z d rx_m272 33 L (.int 0 :: S) (rz_mk h ι, w) := rz_s1 fun _ => rfl
theorem g272_33 : rg Z d rx_m272 33 [l0, l1, some (.int z), l3] (.int x :: S) (rz_mk h ι, w) = rg Z d rx_m272 34 [l0, l1, some (.int z), some (.int x)] S (rz_mk h ι, w) := rz_s1 fun _ => rfl
theorem g272_34 : rg Z d rx_m272 34 [l0, l1, l2, some (.int x)] S (rz_mk h ι, w) = rg Z d rx_m272 35 [l0, l1, l2, some (.int x)] (.int x :: S) (rz_mk h ι, w) := rz_s1 fun _ => rfl
theorem g272_35 : rg Z d rx_m272 35 [some (.ref a), l1, l2, l3] S (rz_mk h ι, w) = rg Z d rx_m272 36 [some (.ref a), l1, l2, l3] (.ref a :: S) (rz_mk h ι, w) := rz_s1 fun _ => rfl
theorem g272_36 (c : rz_fR h a 12 25) : rg Z d rx_m272 36 L (.ref a :: S) (rz_mk h ι, w) = rg Z d rx_m272 39 L (rz_rv h a 25 :: S) (rz_mk h ι, w) := rz_gR rfl (by decide) c
theorem g272_39 : rg Z d rx_m272 39 L S (rz_mk h ι, w) = rg Z d rx_m272 41 L (.int 57 :: S) (rz_mk h ι, w) := rz_s1 fun _ => rfl
theorem g272_41 (c : rz_ar h a 0) (hi : rz_ix x (rz_ln h a)) : rg Z d rx_m272 41 L (.int x :: .ref a :: S) (rz_mk h ι, w) = rg Z d rx_m272 42 L (.int (ι a x.toNatClampNeg) :: S) (rz_mk h ι, w) := rz_iald rfl c hi
theorem g272_42 : rg Z d rx_m272 42 L (.int y :: .int x :: S) (rz_mk h ι, w) = if x < y then rg Z d rx_m272 45 L S (rz_mk h ι, w) else rg Z d rx_m272 119 L S (rz_mk h ι, w) := rz_if2 (pc := 42) (t := 119) (off := 77) (cc := .ge) (by decide) rfl
theorem g272_45 : rg Z d rx_m272 45 [some (.ref a), l1, l2, l3] S (rz_mk h ι, w) = rg Z d rx_m272 46 [some (.ref a), l1, l2, l3] (.ref a :: S) (rz_mk h ι, w) := rz_s1 fun _ => rfl
theorem g272_46 (c : rz_fR h a 12 25) : rg Z d rx_m272 46 L (.ref a :: S) (rz_mk h ι, w) = rg Z d rx_m272 49 L (rz_rv h a 25 :: S) (rz_mk h ι, w) := rz_gR rfl (by decide) c
theorem g272_49 : rg Z d rx_m272 49 L S (rz_mk h ι, w) = rg Z d rx_m272 51 L (.int 58 :: S) (rz_mk h ι, w) := rz_s1 fun _ => rfl
theorem g272_51 (c : rz_ar h a 0) (hi : rz_ix x (rz_ln h a)) : rg Z d rx_m272 51 L (.int x :: .ref a :: S) (rz_mk h ι, w) = rg Z d rx_m272 52 L (.int (ι a x.toNatClampNeg) :: S) (rz_mk h ι, w) := rz_iald rfl c hi
theorem g272_52 : rg Z d rx_m272 52 L S (rz_mk h ι, w) = rg Z d rx_m272 53 L (.int (-1) :: S) (rz_mk h ι, w) := rz_s1 fun _ => rfl
theorem g272_53 : rg Z d rx_m272 53 L (.int y :: .int x :: S) (rz_mk h ι, w) = if x = y then rg Z d rx_m272 113 L S (rz_mk h ι, w) else rg Z d rx_m272 56 L S (rz_mk h ι, w) := rz_if2 (pc := 53) (t := 113) (off := 60) (cc := .eq) (by decide) rfl
theorem g272_56 : rg Z d rx_m272 56 [l0, l1, l2, some (.int x)] S (rz_mk h ι, w) = rg Z d rx_m272 57 [l0, l1, l2, some (.int x)] (.int x :: S) (rz_mk h ι, w) := rz_s1 fun _ => rfl
theorem g272_57 : rg Z d rx_m272 57 [some (.ref a), l1, l2, l3] S (rz_mk h ι, w) = rg Z d rx_m272 58 [some (.ref a), l1, l2, l3] (.ref a :: S) (rz_mk h ι, w) := rz_s1 fun _ => rfl
theorem g272_58 (c : rz_fR h a 12 25) : rg Z d rx_m272 58 L (.ref a :: S) (rz_mk h ι, w) = rg Z d rx_m272 61 L (rz_rv h a 25 :: S) (rz_mk h ι, w) := rz_gR rfl (by decide) c
theorem g272_61 : rg Z d rx_m272 61 L S (rz_mk h ι, w) = rg Z d rx_m272 63 L (.int 58 :: S) (rz_mk h ι, w) := rz_s1 fun _ => rfl
theorem g272_63 (c : rz_ar h a 0) (hi : rz_ix x (rz_ln h a)) : rg Z d rx_m272 63 L (.int x :: .ref a :: S) (rz_mk h ι, w) = rg Z d rx_m272 64 L (.int (ι a x.toNatClampNeg) :: S) (rz_mk h ι, w) := rz_iald rfl c hi
theorem g272_64 : rg Z d rx_m272 64 L (.int y :: .int x :: S) (rz_mk h ι, w) = if x = y then rg Z d rx_m272 113 L S (rz_mk h ι, w) else rg Z d rx_m272 67 L S (rz_mk h ι, w) := rz_if2 (pc := 64) (t := 113) (off := 49) (cc := .eq) (by decide) rfl
theorem g272_67 : rg Z d rx_m272 67 [some (.ref a), l1, l2, l3] S (rz_mk h ι, w) = rg Z d rx_m272 68 [some (.ref a), l1, l2, l3] (.ref a :: S) (rz_mk h ι, w) := rz_s1 fun _ => rfl
theorem g272_68 (c : rz_fR h a 12 25) : rg Z d rx_m272 68 L (.ref a :: S) (rz_mk h ι, w) = rg Z d rx_m272 71 L (rz_rv h a 25 :: S) (rz_mk h ι, w) := rz_gR rfl (by decide) c
theorem g272_71 : rg Z d rx_m272 71 [l0, l1, l2, some (.int x)] S (rz_mk h ι, w) = rg Z d rx_m272 72 [l0, l1, l2, some (.int x)] (.int x :: S) (rz_mk h ι, w) := rz_s1 fun _ => rfl
theorem g272_72 : rg Z d rx_m272 72 L (v2 :: v1 :: []) (rz_mk h ι, w) = rz_k true (rz_f Z d 222 [v1, v2] (rz_mk h ι, w)) (fun v σ' => rg Z d rx_m272 75 L (v.toList ++ []) σ') := rz_cs (pc := 72) (n := 2) (mi := 222) (S := v2 :: v1 :: []) (rest := []) rfl rfl (Nat.le_of_ble_eq_true rfl) (Nat.le_of_ble_eq_true rfl)
theorem g272_75 : rg Z d rx_m272 75 L (.int x :: S) (rz_mk h ι, w) = if x = 0 then rg Z d rx_m272 78 L S (rz_mk h ι, w) else rg Z d rx_m272 81 L S (rz_mk h ι, w) := rz_if1 (pc := 75) (t := 81) (off := 6) (cc := .ne) (by decide) rfl
theorem g272_78 : rg Z d rx_m272 78 L S (rz_mk h ι, w) = rg Z d rx_m272 113 L S (rz_mk h ι, w) := rz_s1 fun _ => rfl
theorem g272_81 : rg Z d rx_m272 81 [l0, l1, some (.int x), l3] S (rz_mk h ι, w) = rg Z d rx_m272 82 [l0, l1, some (.int x), l3] (.int x :: S) (rz_mk h ι, w) := rz_s1 fun _ => rfl
theorem g272_82 : rg Z d rx_m272 82 L S (rz_mk h ι, w) = rg Z d rx_m272 83 L (.int (-1) :: S) (rz_mk h ι, w) := rz_s1 fun _ => rfl
theorem g272_83 : rg Z d rx_m272 83 L (.int y :: .int x :: S) (rz_mk h ι, w) = if x = y then rg Z d rx_m272 107 L S (rz_mk h ι, w) else rg Z d rx_m272 86 L S (rz_mk h ι, w) := rz_if2 (pc := 83) (t := 107) (off := 24) (cc := .eq) (by decide) rfl
theorem g272_86 : rg Z d rx_m272 86 [some (.ref a), l1, l2, l3] S (rz_mk h ι, w) = rg Z d rx_m272 87 [some (.ref a), l1, l2, l3] (.ref a :: S) (rz_mk h ι, w) := rz_s1 fun _ => rfl
theorem g272_87 : rg Z d rx_m272 87 [some (.ref a), l1, l2, l3] S (rz_mk h ι, w) = rg Z d rx_m272 88 [some (.ref a), l1, l2, l3] (.ref a :: S) (rz_mk h ι, w) := rz_s1 fun _ => rfl
theorem g272_88 (c : rz_fR h a 12 25) : rg Z d rx_m272 88 L (.ref a :: S) (rz_mk h ι, w) = rg Z d rx_m272 91 L (rz_rv h a 25 :: S) (rz_mk h ι, w) := rz_gR rfl (by decide) c
theorem g272_91 : rg Z d rx_m272 91 [l0, l1, l2, some (.int x)] S (rz_mk h ι, w) = rg Z d rx_m272 92 [l0, l1, l2, some (.int x)] (.int x :: S) (rz_mk h ι, w) := rz_s1 fun _ => rfl
theorem g272_92 (c : rz_oc h a 12) : rg Z d rx_m272 92 L (v2 :: v1 :: .ref a :: []) (rz_mk h ι, w) = rz_k true (rz_f Z d 237 [.ref a, v1, v2] (rz_mk h ι, w)) (fun v σ' => rg Z d rx_m272 95 L (v.toList ++ []) σ') := rz_cv (pc := 92) (n := 2) (mi := 237) (S := v2 :: v1 :: .ref a :: []) (rest := []) rfl rfl (Nat.le_of_ble_eq_true rfl) (Nat.le_of_ble_eq_true rfl) c
theorem g272_95 : rg Z d rx_m272 95 [some (.ref a), l1, l2, l3] S (rz_mk h ι, w) = rg Z d rx_m272 96 [some (.ref a), l1, l2, l3] (.ref a :: S) (rz_mk h ι, w) := rz_s1 fun _ => rfl
theorem g272_96 : rg Z d rx_m272 96 [some (.ref a), l1, l2, l3] S (rz_mk h ι, w) = rg Z d rx_m272 97 [some (.ref a), l1, l2, l3] (.ref a :: S) (rz_mk h ι, w) := rz_s1 fun _ => rfl
theorem g272_97 (c : rz_fR h a 12 25) : rg Z d rx_m272 97 L (.ref a :: S) (rz_mk h ι, w) = rg Z d rx_m272 100 L (rz_rv h a 25 :: S) (rz_mk h ι, w) := rz_gR rfl (by decide) c
theorem g272_100 : rg Z d rx_m272 100 [l0, l1, some (.int x), l3] S (rz_mk h ι, w) = rg Z d rx_m272 101 [l0, l1, some (.int x), l3] (.int x :: S) (rz_mk h ι, w) := rz_s1 fun _ => rfl
theorem g272_101 (c : rz_oc h a 12) : rg Z d rx_m272 101 L (v2 :: v1 :: .ref a :: [.int s0]) (rz_mk h ι, w) = rz_k true (rz_f Z d 237 [.ref a, v1, v2] (rz_mk h ι, w)) (fun v σ' => rg Z d rx_m272 104 L (v.toList ++ [.int s0]) σ') := rz_cv (pc := 101) (n := 2) (mi := 237) (S := v2 :: v1 :: .ref a :: [.int s0]) (rest := [.int s0]) rfl rfl (Nat.le_of_ble_eq_true rfl) (Nat.le_of_ble_eq_true rfl) c
theorem g272_104 : rg Z d rx_m272 104 L (.int y :: .int x :: S) (rz_mk h ι, w) = if x < y then rg Z d rx_m272 107 L S (rz_mk h ι, w) else rg Z d rx_m272 111 L S (rz_mk h ι, w) := rz_if2 (pc := 104) (t := 111) (off := 7) (cc := .ge) (by decide) rfl
theorem g272_107 : rg Z d rx_m272 107 [l0, l1, l2, some (.int x)] S (rz_mk h ι, w) = rg Z d rx_m272 108 [l0, l1, l2, some (.int x)] (.int x :: S) (rz_mk h ι, w) := rz_s1 fun _ => rfl
theorem g272_108 : rg Z d rx_m272 108 L S (rz_mk h ι, w) = rg Z d rx_m272 112 L S (rz_mk h ι, w) := rz_s1 fun _ => rfl
theorem g272_111 : rg Z d rx_m272 111 [l0, l1, some (.int x), l3] S (rz_mk h ι, w) = rg Z d rx_m272 112 [l0, l1, some (.int x), l3] (.int x :: S) (rz_mk h ι, w) := rz_s1 fun _ => rfl
theorem g272_112 : rg Z d rx_m272 112 [l0, some (.int z), l2, l3] (.int x :: S) (rz_mk h ι, w) = rg Z d rx_m272 113 [l0, some (.int z), some (.int x), l3] S (rz_mk h ι, w) := rz_s1 fun _ => rfl
theorem g272_113 : rg Z d rx_m272 113 [l0, l1, some (.int z), some (.int x)] S (rz_mk h ι, w) = rg Z d rx_m272 116 [l0, l1, some (.int z), some (.int (x + 1))] S (rz_mk h ι, w) := rz_s1 fun _ => rfl
theorem g272_116 : rg Z d rx_m272 116 L S (rz_mk h ι, w) = rg Z d rx_m272 34 L S (rz_mk h ι, w) := rz_s1 fun _ => rfl
theorem g272_119 : rg Z d rx_m272 119 [l0, some (.int x), l2, l3] S (rz_mk h ι, w) = rg Z d rx_m272 120 [l0, some (.int x), l2, l3] (.int x :: S) (rz_mk h ι, w) := rz_s1 fun _ => rfl
theorem g272_120 : rg Z d rx_m272 120 L (.int x :: S) (rz_mk h ι, w) = if x = 0 then rg Z d rx_m272 128 L S (rz_mk h ι, w) else rg Z d rx_m272 123 L S (rz_mk h ι, w) := rz_if1 (pc := 120) (t := 128) (off := 8) (cc := .eq) (by decide) rfl
theorem g272_123 : rg Z d rx_m272 123 [l0, l1, some (.int x), l3] S (rz_mk h ι, w) = rg Z d rx_m272 124 [l0, l1, some (.int x), l3] (.int x :: S) (rz_mk h ι, w) := rz_s1 fun _ => rfl
theorem g272_124 : rg Z d rx_m272 124 L S (rz_mk h ι, w) = rg Z d rx_m272 125 L (.int (-1) :: S) (rz_mk h ι, w) := rz_s1 fun _ => rfl
theorem g272_125 : rg Z d rx_m272 125 L (.int y :: .int x :: S) (rz_mk h ι, w) = if x = y then rg Z d rx_m272 128 L S (rz_mk h ι, w) else rg Z d rx_m272 132 L S (rz_mk h ι, w) := rz_if2 (pc := 125) (t := 132) (off := 7) (cc := .ne) (by decide) rfl
theorem g272_128 : rg Z d rx_m272 128 [l0, l1, some (.int x), l3] S (rz_mk h ι, w) = rg Z d rx_m272 129 [l0, l1, some (.int x), l3] (.int x :: S) (rz_mk h ι, w) := rz_s1 fun _ => rfl
theorem g272_129 : rg Z d rx_m272 129 L S (rz_mk h ι, w) = rg Z d rx_m272 141 L S (rz_mk h ι, w) := rz_s1 fun _ => rfl
theorem g272_132 : rg Z d rx_m272 132 [some (.ref a), l1, l2, l3] S (rz_mk h ι, w) = rg Z d rx_m272 133 [some (.ref a), l1, l2, l3] (.ref a :: S) (rz_mk h ι, w) := rz_s1 fun _ => rfl
theorem g272_133 : rg Z d rx_m272 133 [some (.ref a), l1, l2, l3] S (rz_mk h ι, w) = rg Z d rx_m272 134 [some (.ref a), l1, l2, l3] (.ref a :: S) (rz_mk h ι, w) := rz_s1 fun _ => rfl
theorem g272_134 (c : rz_fR h a 12 25) : rg Z d rx_m272 134 L (.ref a :: S) (rz_mk h ι, w) = rg Z d rx_m272 137 L (rz_rv h a 25 :: S) (rz_mk h ι, w) := rz_gR rfl (by decide) c
theorem g272_137 : rg Z d rx_m272 137 [l0, l1, some (.int x), l3] S (rz_mk h ι, w) = rg Z d rx_m272 138 [l0, l1, some (.int x), l3] (.int x :: S) (rz_mk h ι, w) := rz_s1 fun _ => rfl
theorem g272_138 (c : rz_oc h a 12) : rg Z d rx_m272 138 L (v2 :: v1 :: .ref a :: []) (rz_mk h ι, w) = rz_k true (rz_f Z d 237 [.ref a, v1, v2] (rz_mk h ι, w)) (fun v σ' => rg Z d rx_m272 141 L (v.toList ++ []) σ') := rz_cv (pc := 138) (n := 2) (mi := 237) (S := v2 :: v1 :: .ref a :: []) (rest := []) rfl rfl (Nat.le_of_ble_eq_true rfl) (Nat.le_of_ble_eq_true rfl) c
theorem g272_141 : rg Z d rx_m272 141 L [.int x] (rz_mk h ι, w) = some (.inl (some (.int x)), (rz_mk h ι, w)) := rz_reti rfl rfl rfl
theorem e272 : rz_f Z (d + 1) 272 [.ref t0, .int s1] σ = rg Z d rx_m272 0 [some (.ref t0), some (.int s1), none, none] [] σ := rz_f_eq rfl (Nat.le_of_ble_eq_true rfl)
theorem g273_0 : rg Z d rx_m273 0 [some (.ref a), l1, l2, l3, l4, l5] S (rz_mk h ι, w) = rg Z d rx_m273 1 [some (.ref a), l1, l2, l3, l4, l5] (.ref a :: S) (rz_mk h ι, w) := rz_s1 fun _ => rfl
theorem g273_1 : rg Z d rx_m273 1 L S (rz_mk h ι, w) = rg Z d rx_m273 2 L (.int 0 :: S) (rz_mk h ι, w) := rz_s1 fun _ => rfl
theorem g273_2 (c : rz_fI h a 12 0) (hz : Z.2.1 ≤ a) : rg Z d rx_m273 2 L (.int x :: .ref a :: S) (rz_mk h ι, w) = rg Z d rx_m273 5 L S (rz_mk h (rz_up ι a 0 x), w) := rz_pI rfl c hz
theorem g273_5 : rg Z d rx_m273 5 [some (.ref a), l1, l2, l3, l4, l5] S (rz_mk h ι, w) = rg Z d rx_m273 6 [some (.ref a), l1, l2, l3, l4, l5] (.ref a :: S) (rz_mk h ι, w) := rz_s1 fun _ => rfl
theorem g273_6 : rg Z d rx_m273 6 [l0, some (.int x), l2, l3, l4, l5] S (rz_mk h ι, w) = rg Z d rx_m273 7 [l0, some (.int x), l2, l3, l4, l5] (.int x :: S) (rz_mk h ι, w) := rz_s1 fun _ => rfl
theorem g273_7 : rg Z d rx_m273 7 L S (rz_mk h ι, w) = rg Z d rx_m273 8 L (.int 0 :: S) (rz_mk h ι, w) := rz_s1 fun _ => rfl
theorem g273_8 : rg Z d rx_m273 8 L S (rz_mk h ι, w) = rg Z d rx_m273 9 L (.int 2 :: S) (rz_mk h ι, w) := rz_s1 fun _ => rfl
theorem g273_9 : rg Z d rx_m273 9 L (v3 :: v2 :: v1 :: [.ref t0]) (rz_mk h ι, w) = rz_k true (rz_f Z d 175 [v1, v2, v3] (rz_mk h ι, w)) (fun v σ' => rg Z d rx_m273 12 L (v.toList ++ [.ref t0]) σ') := rz_cs (pc := 9) (n := 3) (mi := 175) (S := v3 :: v2 :: v1 :: [.ref t0]) (rest := [.ref t0]) rfl rfl (Nat.le_of_ble_eq_true rfl) (Nat.le_of_ble_eq_true rfl)
theorem g273_12 : rg Z d rx_m273 12 L (.int x :: S) (rz_mk h ι, w) = if x = 0 then rg Z d rx_m273 24 L S (rz_mk h ι, w) else rg Z d rx_m273 15 L S (rz_mk h ι, w) := rz_if1 (pc := 12) (t := 24) (off := 12) (cc := .eq) (by decide) rfl
theorem g273_15 : rg Z d rx_m273 15 [l0, l1, some (.int x), l3, l4, l5] S (rz_mk h ι, w) = rg Z d rx_m273 16 [l0, l1, some (.int x), l3, l4, l5] (.int x :: S) (rz_mk h ι, w) := rz_s1 fun _ => rfl
theorem g273_16 : rg Z d rx_m273 16 L S (rz_mk h ι, w) = rg Z d rx_m273 17 L (.int 0 :: S) (rz_mk h ι, w) := rz_s1 fun _ => rfl
theorem g273_17 : rg Z d rx_m273 17 L S (rz_mk h ι, w) = rg Z d rx_m273 18 L (.int 1 :: S) (rz_mk h ι, w) := rz_s1 fun _ => rfl
theorem g273_18 : rg Z d rx_m273 18 L (v3 :: v2 :: v1 :: [.ref t0]) (rz_mk h ι, w) = rz_k true (rz_f Z d 175 [v1, v2, v3] (rz_mk h ι, w)) (fun v σ' => rg Z d rx_m273 21 L (v.toList ++ [.ref t0]) σ') := rz_cs (pc := 18) (n := 3) (mi := 175) (S := v3 :: v2 :: v1 :: [.ref t0]) (rest := [.ref t0]) rfl rfl (Nat.le_of_ble_eq_true rfl) (Nat.le_of_ble_eq_true rfl)
theorem g273_21 : rg Z d rx_m273 21 L (.int x :: S) (rz_mk h ι, w) = if x = 0 then rg Z d rx_m273 24 L S (rz_mk h ι, w) else rg Z d rx_m273 28 L S (rz_mk h ι, w) := rz_if1 (pc := 21) (t := 28) (off := 7) (cc := .ne) (by decide) rfl
theorem g273_24 : rg Z d rx_m273 24 L S (rz_mk h ι, w) = rg Z d rx_m273 25 L (.int 1 :: S) (rz_mk h ι, w) := rz_s1 fun _ => rfl
theorem g273_25 : rg Z d rx_m273 25 L S (rz_mk h ι, w) = rg Z d rx_m273 29 L S (rz_mk h ι, w) := rz_s1 fun _ => rfl
theorem g273_28 : rg Z d rx_m273 28 L S (rz_mk h ι, w) = rg Z d rx_m273 29 L (.int 0 :: S) (rz_mk h ι, w) := rz_s1 fun _ => rfl
theorem g273_29 : rg Z d rx_m273 29 L S (rz_mk h ι, w) = rg Z d rx_m273 30 L (.int 1 :: S) (rz_mk h ι, w) := rz_s1 fun _ => rfl
theorem g273_30 : rg Z d rx_m273 30 L S (rz_mk h ι, w) = rg Z d rx_m273 31 L (.int 1 :: S) (rz_mk h ι, w) := rz_s1 fun _ => rfl
theorem g273_31 (c : rz_oc h a 12) : rg Z d rx_m273 31 L (v3 :: v2 :: v1 :: .ref a :: []) (rz_mk h ι, w) = rz_k true (rz_f Z d 174 [.ref a, v1, v2, v3] (rz_mk h ι, w)) (fun v σ' => rg Z d rx_m273 34 L (v.toList ++ []) σ') := rz_cv (pc := 31) (n := 3) (mi := 174) (S := v3 :: v2 :: v1 :: .ref a :: []) (rest := []) rfl rfl (Nat.le_of_ble_eq_true rfl) (Nat.le_of_ble_eq_true rfl) c
theorem g273_34 : rg Z d rx_m273 34 L (.int x :: S) (rz_mk h ι, w) = if x = 0 then rg Z d rx_m273 39 L S (rz_mk h ι, w) else rg Z d rx_m273 37 L S (rz_mk h ι, w) := rz_if1 (pc := 34) (t := 39) (off := 5) (cc := .eq) (by decide) rfl
theorem g273_37 : rg Z d rx_m273 37 L S (rz_mk h ι, w) = rg Z d rx_m273 38 L (.int 0 :: S) (rz_mk h ι, w) := rz_s1 fun _ => rfl
theorem g273_38 : rg Z d rx_m273 38 L [.int x] (rz_mk h ι, w) = some (.inl (some (.int x)), (rz_mk h ι, w)) := rz_reti rfl rfl rfl
theorem g273_39 : rg Z d rx_m273 39 L S (rz_mk h ι, w) = rg Z d rx_m273 40 L (.int (-1) :: S) (rz_mk h ι, w) := rz_s1 fun _ => rfl
theorem g273_40 : rg Z d rx_m273 40 [l0, l1, some (.int z), l3, l4, l5] (.int x :: S) (rz_mk h ι, w) = rg Z d rx_m273 41 [l0, l1, some (.int z), some (.int x), l4, l5] S (rz_mk h ι, w) := rz_s1 fun _ => rfl
theorem g273_41 : rg Z d rx_m273 41 L S (rz_mk h ι, w) = rg Z d rx_m273 42 L (.int (-1) :: S) (rz_mk h ι, w) := rz_s1 fun _ => rfl
theorem g273_42 : rg Z d rx_m273 42 [l0, l1, l2, some (.int z), l4, l5] (.int x :: S) (rz_mk h ι, w) = rg Z d rx_m273 44 [l0, l1, l2, some (.int z), some (.int x), l5] S (rz_mk h ι, w) := rz_s1 fun _ => rfl
theorem g273_44 : rg Z d rx_m273 44 L S (rz_mk h ι, w) = rg Z d rx_m273 45 L (.int 0 :: S) (rz_mk h ι, w) := rz_s1 fun _ => rfl
theorem g273_45 : rg Z d rx_m273 45 [l0, l1, l2, l3, some (.int z), l5] (.int x :: S) (rz_mk h ι, w) = rg Z d rx_m273 47 [l0, l1, l2, l3, some (.int z), some (.int x)] S (rz_mk h ι, w) := rz_s1 fun _ => rfl
theorem g273_47 : rg Z d rx_m273 47 [l0, l1, l2, l3, l4, some (.int x)] S (rz_mk h ι, w) = rg Z d rx_m273 49 [l0, l1, l2, l3, l4, some (.int x)] (.int x :: S) (rz_mk h ι, w) := rz_s1 fun _ => rfl
theorem g273_49 : rg Z d rx_m273 49 [some (.ref a), l1, l2, l3, l4, l5] S (rz_mk h ι, w) = rg Z d rx_m273 50 [some (.ref a), l1, l2, l3, l4, l5] (.ref a :: S) (rz_mk h ι, w) := rz_s1 fun _ => rfl
theorem g273_50 (c : rz_fR h a 12 25) : rg Z d rx_m273 50 L (.ref a :: S) (rz_mk h ι, w) = rg Z d rx_m273 53 L (rz_rv h a 25 :: S) (rz_mk h ι, w) := rz_gR rfl (by decide) c
theorem g273_53 : rg Z d rx_m273 53 L S (rz_mk h ι, w) = rg Z d rx_m273 55 L (.int 57 :: S) (rz_mk h ι, w) := rz_s1 fun _ => rfl
theorem g273_55 (c : rz_ar h a 0) (hi : rz_ix x (rz_ln h a)) : rg Z d rx_m273 55 L (.int x :: .ref a :: S) (rz_mk h ι, w) = rg Z d rx_m273 56 L (.int (ι a x.toNatClampNeg) :: S) (rz_mk h ι, w) := rz_iald rfl c hi
theorem g273_56 : rg Z d rx_m273 56 L (.int y :: .int x :: S) (rz_mk h ι, w) = if x < y then rg Z d rx_m273 59 L S (rz_mk h ι, w) else rg Z d rx_m273 130 L S (rz_mk h ι, w) := rz_if2 (pc := 56) (t := 130) (off := 74) (cc := .ge) (by decide) rfl
theorem g273_59 : rg Z d rx_m273 59 [some (.ref a), l1, l2, l3, l4, l5] S (rz_mk h ι, w) = rg Z d rx_m273 60 [some (.ref a), l1, l2, l3, l4, l5] (.ref a :: S) (rz_mk h ι, w) := rz_s1 fun _ => rfl
theorem g273_60 (c : rz_fR h a 12 25) : rg Z d rx_m273 60 L (.ref a :: S) (rz_mk h ι, w) = rg Z d rx_m273 63 L (rz_rv h a 25 :: S) (rz_mk h ι, w) := rz_gR rfl (by decide) c
theorem g273_63 : rg Z d rx_m273 63 [l0, l1, l2, l3, l4, some (.int x)] S (rz_mk h ι, w) = rg Z d rx_m273 65 [l0, l1, l2, l3, l4, some (.int x)] (.int x :: S) (rz_mk h ι, w) := rz_s1 fun _ => rfl
theorem g273_65 : rg Z d rx_m273 65 L (v2 :: v1 :: []) (rz_mk h ι, w) = rz_k true (rz_f Z d 222 [v1, v2] (rz_mk h ι, w)) (fun v σ' => rg Z d rx_m273 68 L (v.toList ++ []) σ') := rz_cs (pc := 65) (n := 2) (mi := 222) (S := v2 :: v1 :: []) (rest := []) rfl rfl (Nat.le_of_ble_eq_true rfl) (Nat.le_of_ble_eq_true rfl)
theorem g273_68 : rg Z d rx_m273 68 L (.int x :: S) (rz_mk h ι, w) = if x = 0 then rg Z d rx_m273 71 L S (rz_mk h ι, w) else rg Z d rx_m273 74 L S (rz_mk h ι, w) := rz_if1 (pc := 68) (t := 74) (off := 6) (cc := .ne) (by decide) rfl
theorem g273_71 : rg Z d rx_m273 71 L S (rz_mk h ι, w) = rg Z d rx_m273 124 L S (rz_mk h ι, w) := rz_s1 fun _ => rfl
theorem g273_74 : rg Z d rx_m273 74 [l0, l1, l2, some (.int x), l4, l5] S (rz_mk h ι, w) = rg Z d rx_m273 75 [l0, l1, l2, some (.int x), l4, l5] (.int x :: S) (rz_mk h ι, w) := rz_s1 fun _ => rfl
theorem g273_75 : rg Z d rx_m273 75 L S (rz_mk h ι, w) = rg Z d rx_m273 76 L (.int (-1) :: S) (rz_mk h ι, w) := rz_s1 fun _ => rfl
theorem g273_76 : rg Z d rx_m273 76 L (.int y :: .int x :: S) (rz_mk h ι, w) = if x = y then rg Z d rx_m273 79 L S (rz_mk h ι, w) else rg Z d rx_m273 92 L S (rz_mk h ι, w) := rz_if2 (pc := 76) (t := 92) (off := 16) (cc := .ne) (by decide) rfl
theorem g273_79 : rg Z d rx_m273 79 [some (.ref a), l1, l2, l3, l4, l5] S (rz_mk h ι, w) = rg Z d rx_m273 80 [some (.ref a), l1, l2, l3, l4, l5] (.ref a :: S) (rz_mk h ι, w) := rz_s1 fun _ => rfl
theorem g273_80 (c : rz_fR h a 12 25) : rg Z d rx_m273 80 L (.ref a :: S) (rz_mk h ι, w) = rg Z d rx_m273 83 L (rz_rv h a 25 :: S) (rz_mk h ι, w) := rz_gR rfl (by decide) c
theorem g273_83 : rg Z d rx_m273 83 [l0, l1, l2, l3, l4, some (.int x)] S (rz_mk h ι, w) = rg Z d rx_m273 85 [l0, l1, l2, l3, l4, some (.int x)] (.int x :: S) (rz_mk h ι, w) := rz_s1 fun _ => rfl
theorem g273_85 : rg Z d rx_m273 85 [l0, some (.int x), l2, l3, l4, l5] S (rz_mk h ι, w) = rg Z d rx_m273 86 [l0, some (.int x), l2, l3, l4, l5] (.int x :: S) (rz_mk h ι, w) := rz_s1 fun _ => rfl
theorem g273_86 : rg Z d rx_m273 86 L (v3 :: v2 :: v1 :: []) (rz_mk h ι, w) = rz_k true (rz_f Z d 217 [v1, v2, v3] (rz_mk h ι, w)) (fun v σ' => rg Z d rx_m273 89 L (v.toList ++ []) σ') := rz_cs (pc := 86) (n := 3) (mi := 217) (S := v3 :: v2 :: v1 :: []) (rest := []) rfl rfl (Nat.le_of_ble_eq_true rfl) (Nat.le_of_ble_eq_true rfl)
theorem g273_89 : rg Z d rx_m273 89 L S (rz_mk h ι, w) = rg Z d rx_m273 106 L S (rz_mk h ι, w) := rz_s1 fun _ => rfl
theorem g273_92 : rg Z d rx_m273 92 [l0, l1, l2, some (.int x), l4, l5] S (rz_mk h ι, w) = rg Z d rx_m273 93 [l0, l1, l2, some (.int x), l4, l5] (.int x :: S) (rz_mk h ι, w) := rz_s1 fun _ => rfl
theorem g273_93 : rg Z d rx_m273 93 [some (.ref a), l1, l2, l3, l4, l5] S (rz_mk h ι, w) = rg Z d rx_m273 94 [some (.ref a), l1, l2, l3, l4, l5] (.ref a :: S) (rz_mk h ι, w) := rz_s1 fun _ => rfl
theorem g273_94 (c : rz_fR h a 12 25) : rg Z d rx_m273 94 L (.ref a :: S) (rz_mk h ι, w) = rg Z d rx_m273 97 L (rz_rv h a 25 :: S) (rz_mk h ι, w) := rz_gR rfl (by decide) c
theorem g273_97 : rg Z d rx_m273 97 [l0, l1, l2, l3, l4, some (.int x)] S (rz_mk h ι, w) = rg Z d rx_m273 99 [l0, l1, l2, l3, l4, some (.int x)] (.int x :: S) (rz_mk h ι, w) := rz_s1 fun _ => rfl
theorem g273_99 : rg Z d rx_m273 99 [l0, some (.int x), l2, l3, l4, l5] S (rz_mk h ι, w) = rg Z d rx_m273 100 [l0, some (.int x), l2, l3, l4, l5] (.int x :: S) (rz_mk h ι, w) := rz_s1 fun _ => rfl
theorem g273_100 : rg Z d rx_m273 100 L (v3 :: v2 :: v1 :: [.int s0]) (rz_mk h ι, w) = rz_k true (rz_f Z d 217 [v1, v2, v3] (rz_mk h ι, w)) (fun v σ' => rg Z d rx_m273 103 L (v.toList ++ [.int s0]) σ') := rz_cs (pc := 100) (n := 3) (mi := 217) (S := v3 :: v2 :: v1 :: [.int s0]) (rest := [.int s0]) rfl rfl (Nat.le_of_ble_eq_true rfl) (Nat.le_of_ble_eq_true rfl)
theorem g273_103 : rg Z d rx_m273 103 L (v2 :: v1 :: []) (rz_mk h ι, w) = rz_k true (rz_f Z d 176 [v1, v2] (rz_mk h ι, w)) (fun v σ' => rg Z d rx_m273 106 L (v.toList ++ []) σ') := rz_cs (pc := 103) (n := 2) (mi := 176) (S := v2 :: v1 :: []) (rest := []) rfl rfl (Nat.le_of_ble_eq_true rfl) (Nat.le_of_ble_eq_true rfl)
theorem g273_106 : rg Z d rx_m273 106 [l0, l1, some (.int z), l3, l4, l5] (.int x :: S) (rz_mk h ι, w) = rg Z d rx_m273 107 [l0, l1, some (.int z), some (.int x), l4, l5] S (rz_mk h ι, w) := rz_s1 fun _ => rfl
theorem g273_107 : rg Z d rx_m273 107 [l0, l1, l2, l3, some (.int x), l5] S (rz_mk h ι, w) = rg Z d rx_m273 109 [l0, l1, l2, l3, some (.int x), l5] (.int x :: S) (rz_mk h ι, w) := rz_s1 fun _ => rfl
theorem g273_109 : rg Z d rx_m273 109 [some (.ref a), l1, l2, l3, l4, l5] S (rz_mk h ι, w) = rg Z d rx_m273 110 [some (.ref a), l1, l2, l3, l4, l5] (.ref a :: S) (rz_mk h ι, w) := rz_s1 fun _ => rfl
theorem g273_110 (c : rz_fR h a 12 25) : rg Z d rx_m273 110 L (.ref a :: S) (rz_mk h ι, w) = rg Z d rx_m273 113 L (rz_rv h a 25 :: S) (rz_mk h ι, w) := rz_gR rfl (by decide) c
theorem g273_113 : rg Z d rx_m273 113 [l0, l1, l2, l3, l4, some (.int x)] S (rz_mk h ι, w) = rg Z d rx_m273 115 [l0, l1, l2, l3, l4, some (.int x)] (.int x :: S) (rz_mk h ι, w) := rz_s1 fun _ => rfl
theorem g273_115 : rg Z d rx_m273 115 [l0, some (.int x), l2, l3, l4, l5] S (rz_mk h ι, w) = rg Z d rx_m273 116 [l0, some (.int x), l2, l3, l4, l5] (.int x :: S) (rz_mk h ι, w) := rz_s1 fun _ => rfl
theorem g273_116 : rg Z d rx_m273 116 L (v3 :: v2 :: v1 :: [.int s0]) (rz_mk h ι, w) = rz_k true (rz_f Z d 217 [v1, v2, v3] (rz_mk h ι, w)) (fun v σ' => rg Z d rx_m273 119 L (v.toList ++ [.int s0]) σ') := rz_cs (pc := 116) (n := 3) (mi := 217) (S := v3 :: v2 :: v1 :: [.int s0]) (rest := [.int s0]) rfl rfl (Nat.le_of_ble_eq_true rfl) (Nat.le_of_ble_eq_true rfl)
theorem g273_119 : rg Z d rx_m273 119 L (v2 :: v1 :: []) (rz_mk h ι, w) = rz_k true (rz_f Z d 177 [v1, v2] (rz_mk h ι, w)) (fun v σ' => rg Z d rx_m273 122 L (v.toList ++ []) σ') := rz_cs (pc := 119) (n := 2) (mi := 177) (S := v2 :: v1 :: []) (rest := []) rfl rfl (Nat.le_of_ble_eq_true rfl) (Nat.le_of_ble_eq_true rfl)
theorem g273_122 : rg Z d rx_m273 122 [l0, l1, l2, some (.int z), l4, l5] (.int x :: S) (rz_mk h ι, w) = rg Z d rx_m273 124 [l0, l1, l2, some (.int z), some (.int x), l5] S (rz_mk h ι, w) := rz_s1 fun _ => rfl
theorem g273_124 : rg Z d rx_m273 124 [l0, l1, l2, l3, some (.int z), some (.int x)] S (rz_mk h ι, w) = rg Z d rx_m273 127 [l0, l1, l2, l3, some (.int z), some (.int (x + 1))] S (rz_mk h ι, w) := rz_s1 fun _ => rfl
theorem g273_127 : rg Z d rx_m273 127 L S (rz_mk h ι, w) = rg Z d rx_m273 47 L S (rz_mk h ι, w) := rz_s1 fun _ => rfl
theorem g273_130 : rg Z d rx_m273 130 [l0, l1, some (.int x), l3, l4, l5] S (rz_mk h ι, w) = rg Z d rx_m273 131 [l0, l1, some (.int x), l3, l4, l5] (.int x :: S) (rz_mk h ι, w) := rz_s1 fun _ => rfl
theorem g273_131 : rg Z d rx_m273 131 L (.int x :: S) (rz_mk h ι, w) = if x = 0 then rg Z d rx_m273 134 L S (rz_mk h ι, w) else rg Z d rx_m273 138 L S (rz_mk h ι, w) := rz_if1 (pc := 131) (t := 138) (off := 7) (cc := .ne) (by decide) rfl
theorem g273_134 : rg Z d rx_m273 134 [l0, l1, l2, some (.int x), l4, l5] S (rz_mk h ι, w) = rg Z d rx_m273 135 [l0, l1, l2, some (.int x), l4, l5] (.int x :: S) (rz_mk h ι, w) := rz_s1 fun _ => rfl
theorem g273_135 : rg Z d rx_m273 135 L S (rz_mk h ι, w) = rg Z d rx_m273 140 L S (rz_mk h ι, w) := rz_s1 fun _ => rfl
theorem g273_138 : rg Z d rx_m273 138 [l0, l1, l2, l3, some (.int x), l5] S (rz_mk h ι, w) = rg Z d rx_m273 140 [l0, l1, l2, l3, some (.int x), l5] (.int x :: S) (rz_mk h ι, w) := rz_s1 fun _ => rfl
theorem g273_140 : rg Z d rx_m273 140 L [.int x] (rz_mk h ι, w) = some (.inl (some (.int x)), (rz_mk h ι, w)) := rz_reti rfl rfl rfl
theorem e273 : rz_f Z (d + 1) 273 [.ref t0, .int s1, .int s2] σ = rg Z d rx_m273 0 [some (.ref t0), some (.int s1), some (.int s2), none, none, none] [] σ := rz_f_eq rfl (Nat.le_of_ble_eq_true rfl)
theorem g274_0 : rg Z d rx_m274 0 [some (.ref a), l1, l2, l3] S (rz_mk h ι, w) = rg Z d rx_m274 1 [some (.ref a), l1, l2, l3] (.ref a :: S) (rz_mk h ι, w) := rz_s1 fun _ => rfl
theorem g274_1 : rg Z d rx_m274 1 L S (rz_mk h ι, w) = rg Z d rx_m274 2 L (.int 0 :: S) (rz_mk h ι, w) := rz_s1 fun _ => rfl
theorem g274_2 (c : rz_fI h a 12 0) (hz : Z.2.1 ≤ a) : rg Z d rx_m274 2 L (.int x :: .ref a :: S) (rz_mk h ι, w) = rg Z d rx_m274 5 L S (rz_mk h (rz_up ι a 0 x), w) := rz_pI rfl c hz
theorem g274_5 : rg Z d rx_m274 5 [some (.ref a), l1, l2, l3] S (rz_mk h ι, w) = rg Z d rx_m274 6 [some (.ref a), l1, l2, l3] (.ref a :: S) (rz_mk h ι, w) := rz_s1 fun _ => rfl
theorem g274_6 : rg Z d rx_m274 6 [some (.ref a), l1, l2, l3] S (rz_mk h ι, w) = rg Z d rx_m274 7 [some (.ref a), l1, l2, l3] (.ref a :: S) (rz_mk h ι, w) := rz_s1 fun _ => rfl
theorem g274_7 : rg Z d rx_m274 7 [l0, some (.int x), l2, l3] S (rz_mk h ι, w) = rg Z d rx_m274 8 [l0, some (.int x), l2, l3] (.int x :: S) (rz_mk h ι, w) := rz_s1 fun _ => rfl
theorem g274_8 (c : rz_oc h a 12) : rg Z d rx_m274 8 L (v1 :: .ref a :: [.ref t0]) (rz_mk h ι, w) = rz_k true (rz_f Z d 236 [.ref a, v1] (rz_mk h ι, w)) (fun v σ' => rg Z d rx_m274 11 L (v.toList ++ [.ref t0]) σ') := rz_cv (pc := 8) (n := 1) (mi := 236) (S := v1 :: .ref a :: [.ref t0]) (rest := [.ref t0]) rfl rfl (Nat.le_of_ble_eq_true rfl) (Nat.le_of_ble_eq_true rfl) c
theorem g274_11 : rg Z d rx_m274 11 L (.int x :: S) (rz_mk h ι, w) = if x = 0 then rg Z d rx_m274 14 L S (rz_mk h ι, w) else rg Z d rx_m274 18 L S (rz_mk h ι, w) := rz_if1 (pc := 11) (t := 18) (off := 7) (cc := .ne) (by decide) rfl
theorem g274_14 : rg Z d rx_m274 14 L S (rz_mk h ι, w) = rg Z d rx_m274 15 L (.int 1 :: S) (rz_mk h ι, w) := rz_s1 fun _ => rfl
theorem g274_15 : rg Z d rx_m274 15 L S (rz_mk h ι, w) = rg Z d rx_m274 19 L S (rz_mk h ι, w) := rz_s1 fun _ => rfl
theorem g274_18 : rg Z d rx_m274 18 L S (rz_mk h ι, w) = rg Z d rx_m274 19 L (.int 0 :: S) (rz_mk h ι, w) := rz_s1 fun _ => rfl
theorem g274_19 : rg Z d rx_m274 19 L S (rz_mk h ι, w) = rg Z d rx_m274 20 L (.int 1 :: S) (rz_mk h ι, w) := rz_s1 fun _ => rfl
theorem g274_20 : rg Z d rx_m274 20 L S (rz_mk h ι, w) = rg Z d rx_m274 21 L (.int 0 :: S) (rz_mk h ι, w) := rz_s1 fun _ => rfl
theorem g274_21 (c : rz_oc h a 12) : rg Z d rx_m274 21 L (v3 :: v2 :: v1 :: .ref a :: []) (rz_mk h ι, w) = rz_k true (rz_f Z d 174 [.ref a, v1, v2, v3] (rz_mk h ι, w)) (fun v σ' => rg Z d rx_m274 24 L (v.toList ++ []) σ') := rz_cv (pc := 21) (n := 3) (mi := 174) (S := v3 :: v2 :: v1 :: .ref a :: []) (rest := []) rfl rfl (Nat.le_of_ble_eq_true rfl) (Nat.le_of_ble_eq_true rfl) c
theorem g274_24 : rg Z d rx_m274 24 L (.int x :: S) (rz_mk h ι, w) = if x = 0 then rg Z d rx_m274 29 L S (rz_mk h ι, w) else rg Z d rx_m274 27 L S (rz_mk h ι, w) := rz_if1 (pc := 24) (t := 29) (off := 5) (cc := .eq) (by decide) rfl
theorem g274_27 : rg Z d rx_m274 27 L S (rz_mk h ι, w) = rg Z d rx_m274 28 L (.int 0 :: S) (rz_mk h ι, w) := rz_s1 fun _ => rfl
theorem g274_28 : rg Z d rx_m274 28 L [.int x] (rz_mk h ι, w) = some (.inl (some (.int x)), (rz_mk h ι, w)) := rz_reti rfl rfl rfl
theorem g274_29 : rg Z d rx_m274 29 L S (rz_mk h ι, w) = rg Z d rx_m274 30 L (.int 0 :: S) (rz_mk h ι, w) := rz_s1 fun _ => rfl
theorem g274_30 : rg Z d rx_m274 30 [l0, some (.int z), l2, l3] (.int x :: S) (rz_mk h ι, w) = rg Z d rx_m274 31 [l0, some (.int z), some (.int x), l3] S (rz_mk h ι, w) := rz_s1 fun _ => rfl
theorem g274_31 : rg Z d rx_m274 31 L S (rz_mk h ι, w) = rg Z d rx_m274 32 L (.int 0 :: S) (rz_mk h ι, w) := rz_s1 fun _ => rfl
theorem g274_32 : rg Z d rx_m274 32 [l0, l1, some (.int z), l3] (.int x :: S) (rz_mk h ι, w) = rg Z d rx_m274 33 [l0, l1, some (.int z), some (.int x)] S (rz_mk h ι, w) := rz_s1 fun _ => rfl
theorem g274_33 : rg Z d rx_m274 33 [l0, l1, l2, some (.int x)] S (rz_mk h ι, w) = rg Z d rx_m274 34 [l0, l1, l2, some (.int x)] (.int x :: S) (rz_mk h ι, w) := rz_s1 fun _ => rfl
theorem g274_34 : rg Z d rx_m274 34 L S (rz_mk h ι, w) = rg Z d rx_m274 35 L (.int 3 :: S) (rz_mk h ι, w) := rz_s1 fun _ => rfl
theorem g274_35 : rg Z d rx_m274 35 L (.int y :: .int x :: S) (rz_mk h ι, w) = if x < y then rg Z d rx_m274 38 L S (rz_mk h ι, w) else rg Z d rx_m274 75 L S (rz_mk h ι, w) := rz_if2 (pc := 35) (t := 75) (off := 40) (cc := .ge) (by decide) rfl
theorem g274_38 : rg Z d rx_m274 38 [l0, l1, some (.int x), l3] S (rz_mk h ι, w) = rg Z d rx_m274 39 [l0, l1, some (.int x), l3] (.int x :: S) (rz_mk h ι, w) := rz_s1 fun _ => rfl
theorem g274_39 : rg Z d rx_m274 39 [some (.ref a), l1, l2, l3] S (rz_mk h ι, w) = rg Z d rx_m274 40 [some (.ref a), l1, l2, l3] (.ref a :: S) (rz_mk h ι, w) := rz_s1 fun _ => rfl
theorem g274_40 (c : rz_fR h a 12 25) : rg Z d rx_m274 40 L (.ref a :: S) (rz_mk h ι, w) = rg Z d rx_m274 43 L (rz_rv h a 25 :: S) (rz_mk h ι, w) := rz_gR rfl (by decide) c
theorem g274_43 : rg Z d rx_m274 43 [l0, some (.int x), l2, l3] S (rz_mk h ι, w) = rg Z d rx_m274 44 [l0, some (.int x), l2, l3] (.int x :: S) (rz_mk h ι, w) := rz_s1 fun _ => rfl
theorem g274_44 : rg Z d rx_m274 44 [l0, l1, l2, some (.int x)] S (rz_mk h ι, w) = rg Z d rx_m274 45 [l0, l1, l2, some (.int x)] (.int x :: S) (rz_mk h ι, w) := rz_s1 fun _ => rfl
theorem g274_45 : rg Z d rx_m274 45 L (v3 :: v2 :: v1 :: [.int s0]) (rz_mk h ι, w) = rz_k true (rz_f Z d 217 [v1, v2, v3] (rz_mk h ι, w)) (fun v σ' => rg Z d rx_m274 48 L (v.toList ++ [.int s0]) σ') := rz_cs (pc := 45) (n := 3) (mi := 217) (S := v3 :: v2 :: v1 :: [.int s0]) (rest := [.int s0]) rfl rfl (Nat.le_of_ble_eq_true rfl) (Nat.le_of_ble_eq_true rfl)
theorem g274_48 : rg Z d rx_m274 48 [some (.ref a), l1, l2, l3] S (rz_mk h ι, w) = rg Z d rx_m274 49 [some (.ref a), l1, l2, l3] (.ref a :: S) (rz_mk h ι, w) := rz_s1 fun _ => rfl
theorem g274_49 (c : rz_fR h a 12 25) : rg Z d rx_m274 49 L (.ref a :: S) (rz_mk h ι, w) = rg Z d rx_m274 52 L (rz_rv h a 25 :: S) (rz_mk h ι, w) := rz_gR rfl (by decide) c
theorem g274_52 : rg Z d rx_m274 52 [l0, some (.int x), l2, l3] S (rz_mk h ι, w) = rg Z d rx_m274 53 [l0, some (.int x), l2, l3] (.int x :: S) (rz_mk h ι, w) := rz_s1 fun _ => rfl
theorem g274_53 : rg Z d rx_m274 53 [l0, l1, l2, some (.int x)] S (rz_mk h ι, w) = rg Z d rx_m274 54 [l0, l1, l2, some (.int x)] (.int x :: S) (rz_mk h ι, w) := rz_s1 fun _ => rfl
theorem g274_54 : rg Z d rx_m274 54 L (v3 :: v2 :: v1 :: [.int s0, .int s1]) (rz_mk h ι, w) = rz_k true (rz_f Z d 218 [v1, v2, v3] (rz_mk h ι, w)) (fun v σ' => rg Z d rx_m274 57 L (v.toList ++ [.int s0, .int s1]) σ') := rz_cs (pc := 54) (n := 3) (mi := 218) (S := v3 :: v2 :: v1 :: [.int s0, .int s1]) (rest := [.int s0, .int s1]) rfl rfl (Nat.le_of_ble_eq_true rfl) (Nat.le_of_ble_eq_true rfl)
theorem g274_57 : rg Z d rx_m274 57 L (.int y :: .int x :: S) (rz_mk h ι, w) = if x = y then rg Z d rx_m274 60 L S (rz_mk h ι, w) else rg Z d rx_m274 64 L S (rz_mk h ι, w) := rz_if2 (pc := 57) (t := 64) (off := 7) (cc := .ne) (by decide) rfl
theorem g274_60 : rg Z d rx_m274 60 L S (rz_mk h ι, w) = rg Z d rx_m274 61 L (.int 0 :: S) (rz_mk h ι, w) := rz_s1 fun _ => rfl
theorem g274_61 : rg Z d rx_m274 61 L S (rz_mk h ι, w) = rg Z d rx_m274 67 L S (rz_mk h ι, w) := rz_s1 fun _ => rfl
theorem g274_64 : rg Z d rx_m274 64 L S (rz_mk h ι, w) = rg Z d rx_m274 65 L (.int 1 :: S) (rz_mk h ι, w) := rz_s1 fun _ => rfl
theorem g274_65 : rg Z d rx_m274 65 [l0, l1, l2, some (.int x)] S (rz_mk h ι, w) = rg Z d rx_m274 66 [l0, l1, l2, some (.int x)] (.int x :: S) (rz_mk h ι, w) := rz_s1 fun _ => rfl
theorem g274_66 : rg Z d rx_m274 66 L (.int y :: .int x :: S) (rz_mk h ι, w) = rg Z d rx_m274 67 L (.int (x <<< (y &&& 31)) :: S) (rz_mk h ι, w) := rz_s1 fun _ => rfl
theorem g274_67 : rg Z d rx_m274 67 L (.int y :: .int x :: S) (rz_mk h ι, w) = rg Z d rx_m274 68 L (.int (x ||| y) :: S) (rz_mk h ι, w) := rz_s1 fun _ => rfl
theorem g274_68 : rg Z d rx_m274 68 [l0, some (.int z), l2, l3] (.int x :: S) (rz_mk h ι, w) = rg Z d rx_m274 69 [l0, some (.int z), some (.int x), l3] S (rz_mk h ι, w) := rz_s1 fun _ => rfl
theorem g274_69 : rg Z d rx_m274 69 [l0, l1, some (.int z), some (.int x)] S (rz_mk h ι, w) = rg Z d rx_m274 72 [l0, l1, some (.int z), some (.int (x + 1))] S (rz_mk h ι, w) := rz_s1 fun _ => rfl
theorem g274_72 : rg Z d rx_m274 72 L S (rz_mk h ι, w) = rg Z d rx_m274 33 L S (rz_mk h ι, w) := rz_s1 fun _ => rfl
theorem g274_75 : rg Z d rx_m274 75 [l0, l1, some (.int x), l3] S (rz_mk h ι, w) = rg Z d rx_m274 76 [l0, l1, some (.int x), l3] (.int x :: S) (rz_mk h ι, w) := rz_s1 fun _ => rfl
theorem g274_76 : rg Z d rx_m274 76 L [.int x] (rz_mk h ι, w) = some (.inl (some (.int x)), (rz_mk h ι, w)) := rz_reti rfl rfl rfl
theorem e274 : rz_f Z (d + 1) 274 [.ref t0, .int s1] σ = rg Z d rx_m274 0 [some (.ref t0), some (.int s1), none, none] [] σ := rz_f_eq rfl (Nat.le_of_ble_eq_true rfl)
theorem g275_0 : rg Z d rx_m275 0 [some (.ref a), l1, l2, l3, l4, l5] S (rz_mk h ι, w) = rg Z d rx_m275 1 [some (.ref a), l1, l2, l3, l4, l5] (.ref a :: S) (rz_mk h ι, w) := rz_s1 fun _ => rfl
theorem g275_1 : rg Z d rx_m275 1 L S (rz_mk h ι, w) = rg Z d rx_m275 2 L (.int 0 :: S) (rz_mk h ι, w) := rz_s1 fun _ => rfl
theorem g275_2 (c : rz_fI h a 12 0) (hz : Z.2.1 ≤ a) : rg Z d rx_m275 2 L (.int x :: .ref a :: S) (rz_mk h ι, w) = rg Z d rx_m275 5 L S (rz_mk h (rz_up ι a 0 x), w) := rz_pI rfl c hz
theorem g275_5 : rg Z d rx_m275 5 [some (.ref a), l1, l2, l3, l4, l5] S (rz_mk h ι, w) = rg Z d rx_m275 6 [some (.ref a), l1, l2, l3, l4, l5] (.ref a :: S) (rz_mk h ι, w) := rz_s1 fun _ => rfl
theorem g275_6 : rg Z d rx_m275 6 [l0, some (.int x), l2, l3, l4, l5] S (rz_mk h ι, w) = rg Z d rx_m275 7 [l0, some (.int x), l2, l3, l4, l5] (.int x :: S) (rz_mk h ι, w) := rz_s1 fun _ => rfl
theorem g275_7 : rg Z d rx_m275 7 L (.int x :: S) (rz_mk h ι, w) = if x < 0 then rg Z d rx_m275 10 L S (rz_mk h ι, w) else rg Z d rx_m275 14 L S (rz_mk h ι, w) := rz_if1 (pc := 7) (t := 14) (off := 7) (cc := .ge) (by decide) rfl
theorem g275_10 : rg Z d rx_m275 10 L S (rz_mk h ι, w) = rg Z d rx_m275 11 L (.int 1 :: S) (rz_mk h ι, w) := rz_s1 fun _ => rfl
theorem g275_11 : rg Z d rx_m275 11 L S (rz_mk h ι, w) = rg Z d rx_m275 15 L S (rz_mk h ι, w) := rz_s1 fun _ => rfl
theorem g275_14 : rg Z d rx_m275 14 L S (rz_mk h ι, w) = rg Z d rx_m275 15 L (.int 0 :: S) (rz_mk h ι, w) := rz_s1 fun _ => rfl
theorem g275_15 : rg Z d rx_m275 15 L S (rz_mk h ι, w) = rg Z d rx_m275 16 L (.int 1 :: S) (rz_mk h ι, w) := rz_s1 fun _ => rfl
theorem g275_16 : rg Z d rx_m275 16 L S (rz_mk h ι, w) = rg Z d rx_m275 17 L (.int 1 :: S) (rz_mk h ι, w) := rz_s1 fun _ => rfl
theorem g275_17 (c : rz_oc h a 12) : rg Z d rx_m275 17 L (v3 :: v2 :: v1 :: .ref a :: []) (rz_mk h ι, w) = rz_k true (rz_f Z d 174 [.ref a, v1, v2, v3] (rz_mk h ι, w)) (fun v σ' => rg Z d rx_m275 20 L (v.toList ++ []) σ') := rz_cv (pc := 17) (n := 3) (mi := 174) (S := v3 :: v2 :: v1 :: .ref a :: []) (rest := []) rfl rfl (Nat.le_of_ble_eq_true rfl) (Nat.le_of_ble_eq_true rfl) c
theorem g275_20 : rg Z d rx_m275 20 L (.int x :: S) (rz_mk h ι, w) = if x = 0 then rg Z d rx_m275 25 L S (rz_mk h ι, w) else rg Z d rx_m275 23 L S (rz_mk h ι, w) := rz_if1 (pc := 20) (t := 25) (off := 5) (cc := .eq) (by decide) rfl
theorem g275_23 : rg Z d rx_m275 23 L S (rz_mk h ι, w) = rg Z d rx_m275 24 L (.int 0 :: S) (rz_mk h ι, w) := rz_s1 fun _ => rfl
theorem g275_24 : rg Z d rx_m275 24 L [.int x] (rz_mk h ι, w) = some (.inl (some (.int x)), (rz_mk h ι, w)) := rz_reti rfl rfl rfl
theorem g275_25 : rg Z d rx_m275 25 L S (rz_mk h ι, w) = rg Z d rx_m275 26 L (.int 0 :: S) (rz_mk h ι, w) := rz_s1 fun _ => rfl
theorem g275_26 : rg Z d rx_m275 26 [l0, some (.int z), l2, l3, l4, l5] (.int x :: S) (rz_mk h ι, w) = rg Z d rx_m275 27 [l0, some (.int z), some (.int x), l3, l4, l5] S (rz_mk h ι, w) := rz_s1 fun _ => rfl
theorem g275_27 : rg Z d rx_m275 27 [l0, l1, some (.int x), l3, l4, l5] S (rz_mk h ι, w) = rg Z d rx_m275 28 [l0, l1, some (.int x), l3, l4, l5] (.int x :: S) (rz_mk h ι, w) := rz_s1 fun _ => rfl
theorem g275_28 : rg Z d rx_m275 28 [some (.ref a), l1, l2, l3, l4, l5] S (rz_mk h ι, w) = rg Z d rx_m275 29 [some (.ref a), l1, l2, l3, l4, l5] (.ref a :: S) (rz_mk h ι, w) := rz_s1 fun _ => rfl
theorem g275_29 (c : rz_fR h a 12 25) : rg Z d rx_m275 29 L (.ref a :: S) (rz_mk h ι, w) = rg Z d rx_m275 32 L (rz_rv h a 25 :: S) (rz_mk h ι, w) := rz_gR rfl (by decide) c
theorem g275_32 : rg Z d rx_m275 32 L S (rz_mk h ι, w) = rg Z d rx_m275 34 L (.int 57 :: S) (rz_mk h ι, w) := rz_s1 fun _ => rfl
theorem g275_34 (c : rz_ar h a 0) (hi : rz_ix x (rz_ln h a)) : rg Z d rx_m275 34 L (.int x :: .ref a :: S) (rz_mk h ι, w) = rg Z d rx_m275 35 L (.int (ι a x.toNatClampNeg) :: S) (rz_mk h ι, w) := rz_iald rfl c hi
theorem g275_35 : rg Z d rx_m275 35 L (.int y :: .int x :: S) (rz_mk h ι, w) = if x < y then rg Z d rx_m275 38 L S (rz_mk h ι, w) else rg Z d rx_m275 189 L S (rz_mk h ι, w) := rz_if2 (pc := 35) (t := 189) (off := 154) (cc := .ge) (by decide) rfl
theorem g275_38 : rg Z d rx_m275 38 [some (.ref a), l1, l2, l3, l4, l5] S (rz_mk h ι, w) = rg Z d rx_m275 39 [some (.ref a), l1, l2, l3, l4, l5] (.ref a :: S) (rz_mk h ι, w) := rz_s1 fun _ => rfl
theorem g275_39 (c : rz_fR h a 12 25) : rg Z d rx_m275 39 L (.ref a :: S) (rz_mk h ι, w) = rg Z d rx_m275 42 L (rz_rv h a 25 :: S) (rz_mk h ι, w) := rz_gR rfl (by decide) c
theorem g275_42 : rg Z d rx_m275 42 L S (rz_mk h ι, w) = rg Z d rx_m275 44 L (.int 58 :: S) (rz_mk h ι, w) := rz_s1 fun _ => rfl
theorem g275_44 (c : rz_ar h a 0) (hi : rz_ix x (rz_ln h a)) : rg Z d rx_m275 44 L (.int x :: .ref a :: S) (rz_mk h ι, w) = rg Z d rx_m275 45 L (.int (ι a x.toNatClampNeg) :: S) (rz_mk h ι, w) := rz_iald rfl c hi
theorem g275_45 : rg Z d rx_m275 45 L S (rz_mk h ι, w) = rg Z d rx_m275 46 L (.int (-1) :: S) (rz_mk h ι, w) := rz_s1 fun _ => rfl
theorem g275_46 : rg Z d rx_m275 46 L (.int y :: .int x :: S) (rz_mk h ι, w) = if x = y then rg Z d rx_m275 189 L S (rz_mk h ι, w) else rg Z d rx_m275 49 L S (rz_mk h ι, w) := rz_if2 (pc := 46) (t := 189) (off := 143) (cc := .eq) (by decide) rfl
theorem g275_49 : rg Z d rx_m275 49 [l0, l1, some (.int x), l3, l4, l5] S (rz_mk h ι, w) = rg Z d rx_m275 50 [l0, l1, some (.int x), l3, l4, l5] (.int x :: S) (rz_mk h ι, w) := rz_s1 fun _ => rfl
theorem g275_50 : rg Z d rx_m275 50 [some (.ref a), l1, l2, l3, l4, l5] S (rz_mk h ι, w) = rg Z d rx_m275 51 [some (.ref a), l1, l2, l3, l4, l5] (.ref a :: S) (rz_mk h ι, w) := rz_s1 fun _ => rfl
theorem g275_51 (c : rz_fR h a 12 25) : rg Z d rx_m275 51 L (.ref a :: S) (rz_mk h ι, w) = rg Z d rx_m275 54 L (rz_rv h a 25 :: S) (rz_mk h ι, w) := rz_gR rfl (by decide) c
theorem g275_54 : rg Z d rx_m275 54 L S (rz_mk h ι, w) = rg Z d rx_m275 56 L (.int 58 :: S) (rz_mk h ι, w) := rz_s1 fun _ => rfl
theorem g275_56 (c : rz_ar h a 0) (hi : rz_ix x (rz_ln h a)) : rg Z d rx_m275 56 L (.int x :: .ref a :: S) (rz_mk h ι, w) = rg Z d rx_m275 57 L (.int (ι a x.toNatClampNeg) :: S) (rz_mk h ι, w) := rz_iald rfl c hi
theorem g275_57 : rg Z d rx_m275 57 L (.int y :: .int x :: S) (rz_mk h ι, w) = if x = y then rg Z d rx_m275 183 L S (rz_mk h ι, w) else rg Z d rx_m275 60 L S (rz_mk h ι, w) := rz_if2 (pc := 57) (t := 183) (off := 126) (cc := .eq) (by decide) rfl
theorem g275_60 : rg Z d rx_m275 60 [some (.ref a), l1, l2, l3, l4, l5] S (rz_mk h ι, w) = rg Z d rx_m275 61 [some (.ref a), l1, l2, l3, l4, l5] (.ref a :: S) (rz_mk h ι, w) := rz_s1 fun _ => rfl
theorem g275_61 (c : rz_fR h a 12 25) : rg Z d rx_m275 61 L (.ref a :: S) (rz_mk h ι, w) = rg Z d rx_m275 64 L (rz_rv h a 25 :: S) (rz_mk h ι, w) := rz_gR rfl (by decide) c
theorem g275_64 : rg Z d rx_m275 64 [l0, l1, some (.int x), l3, l4, l5] S (rz_mk h ι, w) = rg Z d rx_m275 65 [l0, l1, some (.int x), l3, l4, l5] (.int x :: S) (rz_mk h ι, w) := rz_s1 fun _ => rfl
theorem g275_65 : rg Z d rx_m275 65 L (v2 :: v1 :: []) (rz_mk h ι, w) = rz_k true (rz_f Z d 222 [v1, v2] (rz_mk h ι, w)) (fun v σ' => rg Z d rx_m275 68 L (v.toList ++ []) σ') := rz_cs (pc := 65) (n := 2) (mi := 222) (S := v2 :: v1 :: []) (rest := []) rfl rfl (Nat.le_of_ble_eq_true rfl) (Nat.le_of_ble_eq_true rfl)
theorem g275_68 : rg Z d rx_m275 68 L (.int x :: S) (rz_mk h ι, w) = if x = 0 then rg Z d rx_m275 71 L S (rz_mk h ι, w) else rg Z d rx_m275 74 L S (rz_mk h ι, w) := rz_if1 (pc := 68) (t := 74) (off := 6) (cc := .ne) (by decide) rfl
theorem g275_71 : rg Z d rx_m275 71 L S (rz_mk h ι, w) = rg Z d rx_m275 183 L S (rz_mk h ι, w) := rz_s1 fun _ => rfl
theorem g275_74 : rg Z d rx_m275 74 L S (rz_mk h ι, w) = rg Z d rx_m275 75 L (.int 0 :: S) (rz_mk h ι, w) := rz_s1 fun _ => rfl
theorem g275_75 : rg Z d rx_m275 75 [l0, l1, some (.int z), l3, l4, l5] (.int x :: S) (rz_mk h ι, w) = rg Z d rx_m275 76 [l0, l1, some (.int z), some (.int x), l4, l5] S (rz_mk h ι, w) := rz_s1 fun _ => rfl
theorem g275_76 : rg Z d rx_m275 76 L S (rz_mk h ι, w) = rg Z d rx_m275 77 L (.int 0 :: S) (rz_mk h ι, w) := rz_s1 fun _ => rfl
theorem g275_77 : rg Z d rx_m275 77 [l0, l1, l2, some (.int z), l4, l5] (.int x :: S) (rz_mk h ι, w) = rg Z d rx_m275 79 [l0, l1, l2, some (.int z), some (.int x), l5] S (rz_mk h ι, w) := rz_s1 fun _ => rfl
theorem g275_79 : rg Z d rx_m275 79 [l0, l1, l2, l3, some (.int x), l5] S (rz_mk h ι, w) = rg Z d rx_m275 81 [l0, l1, l2, l3, some (.int x), l5] (.int x :: S) (rz_mk h ι, w) := rz_s1 fun _ => rfl
theorem g275_81 : rg Z d rx_m275 81 [some (.ref a), l1, l2, l3, l4, l5] S (rz_mk h ι, w) = rg Z d rx_m275 82 [some (.ref a), l1, l2, l3, l4, l5] (.ref a :: S) (rz_mk h ι, w) := rz_s1 fun _ => rfl
theorem g275_82 (c : rz_fR h a 12 25) : rg Z d rx_m275 82 L (.ref a :: S) (rz_mk h ι, w) = rg Z d rx_m275 85 L (rz_rv h a 25 :: S) (rz_mk h ι, w) := rz_gR rfl (by decide) c
theorem g275_85 : rg Z d rx_m275 85 L S (rz_mk h ι, w) = rg Z d rx_m275 87 L (.int 57 :: S) (rz_mk h ι, w) := rz_s1 fun _ => rfl
theorem g275_87 (c : rz_ar h a 0) (hi : rz_ix x (rz_ln h a)) : rg Z d rx_m275 87 L (.int x :: .ref a :: S) (rz_mk h ι, w) = rg Z d rx_m275 88 L (.int (ι a x.toNatClampNeg) :: S) (rz_mk h ι, w) := rz_iald rfl c hi
theorem g275_88 : rg Z d rx_m275 88 L (.int y :: .int x :: S) (rz_mk h ι, w) = if x < y then rg Z d rx_m275 91 L S (rz_mk h ι, w) else rg Z d rx_m275 176 L S (rz_mk h ι, w) := rz_if2 (pc := 88) (t := 176) (off := 88) (cc := .ge) (by decide) rfl
theorem g275_91 : rg Z d rx_m275 91 [l0, l1, l2, l3, some (.int x), l5] S (rz_mk h ι, w) = rg Z d rx_m275 93 [l0, l1, l2, l3, some (.int x), l5] (.int x :: S) (rz_mk h ι, w) := rz_s1 fun _ => rfl
theorem g275_93 : rg Z d rx_m275 93 [l0, l1, some (.int x), l3, l4, l5] S (rz_mk h ι, w) = rg Z d rx_m275 94 [l0, l1, some (.int x), l3, l4, l5] (.int x :: S) (rz_mk h ι, w) := rz_s1 fun _ => rfl
theorem g275_94 : rg Z d rx_m275 94 L (.int y :: .int x :: S) (rz_mk h ι, w) = if x = y then rg Z d rx_m275 170 L S (rz_mk h ι, w) else rg Z d rx_m275 97 L S (rz_mk h ι, w) := rz_if2 (pc := 94) (t := 170) (off := 76) (cc := .eq) (by decide) rfl
theorem g275_97 : rg Z d rx_m275 97 [l0, l1, l2, l3, some (.int x), l5] S (rz_mk h ι, w) = rg Z d rx_m275 99 [l0, l1, l2, l3, some (.int x), l5] (.int x :: S) (rz_mk h ι, w) := rz_s1 fun _ => rfl
theorem g275_99 : rg Z d rx_m275 99 [some (.ref a), l1, l2, l3, l4, l5] S (rz_mk h ι, w) = rg Z d rx_m275 100 [some (.ref a), l1, l2, l3, l4, l5] (.ref a :: S) (rz_mk h ι, w) := rz_s1 fun _ => rfl
theorem g275_100 (c : rz_fR h a 12 25) : rg Z d rx_m275 100 L (.ref a :: S) (rz_mk h ι, w) = rg Z d rx_m275 103 L (rz_rv h a 25 :: S) (rz_mk h ι, w) := rz_gR rfl (by decide) c
theorem g275_103 : rg Z d rx_m275 103 L S (rz_mk h ι, w) = rg Z d rx_m275 105 L (.int 58 :: S) (rz_mk h ι, w) := rz_s1 fun _ => rfl
theorem g275_105 (c : rz_ar h a 0) (hi : rz_ix x (rz_ln h a)) : rg Z d rx_m275 105 L (.int x :: .ref a :: S) (rz_mk h ι, w) = rg Z d rx_m275 106 L (.int (ι a x.toNatClampNeg) :: S) (rz_mk h ι, w) := rz_iald rfl c hi
theorem g275_106 : rg Z d rx_m275 106 L (.int y :: .int x :: S) (rz_mk h ι, w) = if x = y then rg Z d rx_m275 170 L S (rz_mk h ι, w) else rg Z d rx_m275 109 L S (rz_mk h ι, w) := rz_if2 (pc := 106) (t := 170) (off := 64) (cc := .eq) (by decide) rfl
theorem g275_109 : rg Z d rx_m275 109 [some (.ref a), l1, l2, l3, l4, l5] S (rz_mk h ι, w) = rg Z d rx_m275 110 [some (.ref a), l1, l2, l3, l4, l5] (.ref a :: S) (rz_mk h ι, w) := rz_s1 fun _ => rfl
theorem g275_110 (c : rz_fR h a 12 25) : rg Z d rx_m275 110 L (.ref a :: S) (rz_mk h ι, w) = rg Z d rx_m275 113 L (rz_rv h a 25 :: S) (rz_mk h ι, w) := rz_gR rfl (by decide) c
theorem g275_113 : rg Z d rx_m275 113 [l0, l1, l2, l3, some (.int x), l5] S (rz_mk h ι, w) = rg Z d rx_m275 115 [l0, l1, l2, l3, some (.int x), l5] (.int x :: S) (rz_mk h ι, w) := rz_s1 fun _ => rfl
theorem g275_115 : rg Z d rx_m275 115 L (v2 :: v1 :: []) (rz_mk h ι, w) = rz_k true (rz_f Z d 222 [v1, v2] (rz_mk h ι, w)) (fun v σ' => rg Z d rx_m275 118 L (v.toList ++ []) σ') := rz_cs (pc := 115) (n := 2) (mi := 222) (S := v2 :: v1 :: []) (rest := []) rfl rfl (Nat.le_of_ble_eq_true rfl) (Nat.le_of_ble_eq_true rfl)
theorem g275_118 : rg Z d rx_m275 118 L (.int x :: S) (rz_mk h ι, w) = if x = 0 then rg Z d rx_m275 121 L S (rz_mk h ι, w) else rg Z d rx_m275 124 L S (rz_mk h ι, w) := rz_if1 (pc := 118) (t := 124) (off := 6) (cc := .ne) (by decide) rfl
theorem g275_121 : rg Z d rx_m275 121 L S (rz_mk h ι, w) = rg Z d rx_m275 170 L S (rz_mk h ι, w) := rz_s1 fun _ => rfl
theorem g275_124 : rg Z d rx_m275 124 [some (.ref a), l1, l2, l3, l4, l5] S (rz_mk h ι, w) = rg Z d rx_m275 125 [some (.ref a), l1, l2, l3, l4, l5] (.ref a :: S) (rz_mk h ι, w) := rz_s1 fun _ => rfl
theorem g275_125 : rg Z d rx_m275 125 [some (.ref a), l1, l2, l3, l4, l5] S (rz_mk h ι, w) = rg Z d rx_m275 126 [some (.ref a), l1, l2, l3, l4, l5] (.ref a :: S) (rz_mk h ι, w) := rz_s1 fun _ => rfl
theorem g275_126 (c : rz_fR h a 12 25) : rg Z d rx_m275 126 L (.ref a :: S) (rz_mk h ι, w) = rg Z d rx_m275 129 L (rz_rv h a 25 :: S) (rz_mk h ι, w) := rz_gR rfl (by decide) c
theorem g275_129 : rg Z d rx_m275 129 [l0, l1, l2, l3, some (.int x), l5] S (rz_mk h ι, w) = rg Z d rx_m275 131 [l0, l1, l2, l3, some (.int x), l5] (.int x :: S) (rz_mk h ι, w) := rz_s1 fun _ => rfl
theorem g275_131 (c : rz_oc h a 12) : rg Z d rx_m275 131 L (v2 :: v1 :: .ref a :: []) (rz_mk h ι, w) = rz_k true (rz_f Z d 237 [.ref a, v1, v2] (rz_mk h ι, w)) (fun v σ' => rg Z d rx_m275 134 L (v.toList ++ []) σ') := rz_cv (pc := 131) (n := 2) (mi := 237) (S := v2 :: v1 :: .ref a :: []) (rest := []) rfl rfl (Nat.le_of_ble_eq_true rfl) (Nat.le_of_ble_eq_true rfl) c
theorem g275_134 : rg Z d rx_m275 134 [some (.ref a), l1, l2, l3, l4, l5] S (rz_mk h ι, w) = rg Z d rx_m275 135 [some (.ref a), l1, l2, l3, l4, l5] (.ref a :: S) (rz_mk h ι, w) := rz_s1 fun _ => rfl
theorem g275_135 : rg Z d rx_m275 135 [some (.ref a), l1, l2, l3, l4, l5] S (rz_mk h ι, w) = rg Z d rx_m275 136 [some (.ref a), l1, l2, l3, l4, l5] (.ref a :: S) (rz_mk h ι, w) := rz_s1 fun _ => rfl
theorem g275_136 (c : rz_fR h a 12 25) : rg Z d rx_m275 136 L (.ref a :: S) (rz_mk h ι, w) = rg Z d rx_m275 139 L (rz_rv h a 25 :: S) (rz_mk h ι, w) := rz_gR rfl (by decide) c
theorem g275_139 : rg Z d rx_m275 139 [l0, l1, some (.int x), l3, l4, l5] S (rz_mk h ι, w) = rg Z d rx_m275 140 [l0, l1, some (.int x), l3, l4, l5] (.int x :: S) (rz_mk h ι, w) := rz_s1 fun _ => rfl
theorem g275_140 (c : rz_oc h a 12) : rg Z d rx_m275 140 L (v2 :: v1 :: .ref a :: [.int s0]) (rz_mk h ι, w) = rz_k true (rz_f Z d 237 [.ref a, v1, v2] (rz_mk h ι, w)) (fun v σ' => rg Z d rx_m275 143 L (v.toList ++ [.int s0]) σ') := rz_cv (pc := 140) (n := 2) (mi := 237) (S := v2 :: v1 :: .ref a :: [.int s0]) (rest := [.int s0]) rfl rfl (Nat.le_of_ble_eq_true rfl) (Nat.le_of_ble_eq_true rfl) c
theorem g275_143 : rg Z d rx_m275 143 L (.int y :: .int x :: S) (rz_mk h ι, w) = rg Z d rx_m275 144 L (.int (x - y) :: S) (rz_mk h ι, w) := rz_s1 fun _ => rfl
theorem g275_144 : rg Z d rx_m275 144 [l0, l1, l2, l3, some (.int z), l5] (.int x :: S) (rz_mk h ι, w) = rg Z d rx_m275 146 [l0, l1, l2, l3, some (.int z), some (.int x)] S (rz_mk h ι, w) := rz_s1 fun _ => rfl
theorem g275_146 : rg Z d rx_m275 146 [l0, l1, l2, some (.int x), l4, l5] S (rz_mk h ι, w) = rg Z d rx_m275 147 [l0, l1, l2, some (.int x), l4, l5] (.int x :: S) (rz_mk h ι, w) := rz_s1 fun _ => rfl
theorem g275_147 : rg Z d rx_m275 147 [l0, l1, l2, l3, l4, some (.int x)] S (rz_mk h ι, w) = rg Z d rx_m275 149 [l0, l1, l2, l3, l4, some (.int x)] (.int x :: S) (rz_mk h ι, w) := rz_s1 fun _ => rfl
theorem g275_149 : rg Z d rx_m275 149 L (.int x :: S) (rz_mk h ι, w) = if 0 < x then rg Z d rx_m275 163 L S (rz_mk h ι, w) else rg Z d rx_m275 152 L S (rz_mk h ι, w) := rz_if1 (pc := 149) (t := 163) (off := 14) (cc := .gt) (by decide) rfl
theorem g275_152 : rg Z d rx_m275 152 [l0, l1, l2, l3, l4, some (.int x)] S (rz_mk h ι, w) = rg Z d rx_m275 154 [l0, l1, l2, l3, l4, some (.int x)] (.int x :: S) (rz_mk h ι, w) := rz_s1 fun _ => rfl
theorem g275_154 : rg Z d rx_m275 154 L (.int x :: S) (rz_mk h ι, w) = if x = 0 then rg Z d rx_m275 157 L S (rz_mk h ι, w) else rg Z d rx_m275 167 L S (rz_mk h ι, w) := rz_if1 (pc := 154) (t := 167) (off := 13) (cc := .ne) (by decide) rfl
theorem g275_157 : rg Z d rx_m275 157 [l0, l1, l2, l3, some (.int x), l5] S (rz_mk h ι, w) = rg Z d rx_m275 159 [l0, l1, l2, l3, some (.int x), l5] (.int x :: S) (rz_mk h ι, w) := rz_s1 fun _ => rfl
theorem g275_159 : rg Z d rx_m275 159 [l0, l1, some (.int x), l3, l4, l5] S (rz_mk h ι, w) = rg Z d rx_m275 160 [l0, l1, some (.int x), l3, l4, l5] (.int x :: S) (rz_mk h ι, w) := rz_s1 fun _ => rfl
theorem g275_160 : rg Z d rx_m275 160 L (.int y :: .int x :: S) (rz_mk h ι, w) = if x < y then rg Z d rx_m275 163 L S (rz_mk h ι, w) else rg Z d rx_m275 167 L S (rz_mk h ι, w) := rz_if2 (pc := 160) (t := 167) (off := 7) (cc := .ge) (by decide) rfl
theorem g275_163 : rg Z d rx_m275 163 L S (rz_mk h ι, w) = rg Z d rx_m275 164 L (.int 1 :: S) (rz_mk h ι, w) := rz_s1 fun _ => rfl
theorem g275_164 : rg Z d rx_m275 164 L S (rz_mk h ι, w) = rg Z d rx_m275 168 L S (rz_mk h ι, w) := rz_s1 fun _ => rfl
theorem g275_167 : rg Z d rx_m275 167 L S (rz_mk h ι, w) = rg Z d rx_m275 168 L (.int 0 :: S) (rz_mk h ι, w) := rz_s1 fun _ => rfl
theorem g275_168 : rg Z d rx_m275 168 L (.int y :: .int x :: S) (rz_mk h ι, w) = rg Z d rx_m275 169 L (.int (x + y) :: S) (rz_mk h ι, w) := rz_s1 fun _ => rfl
theorem g275_169 : rg Z d rx_m275 169 [l0, l1, some (.int z), l3, l4, l5] (.int x :: S) (rz_mk h ι, w) = rg Z d rx_m275 170 [l0, l1, some (.int z), some (.int x), l4, l5] S (rz_mk h ι, w) := rz_s1 fun _ => rfl
theorem g275_170 : rg Z d rx_m275 170 [l0, l1, l2, some (.int z), some (.int x), l5] S (rz_mk h ι, w) = rg Z d rx_m275 173 [l0, l1, l2, some (.int z), some (.int (x + 1)), l5] S (rz_mk h ι, w) := rz_s1 fun _ => rfl
theorem g275_173 : rg Z d rx_m275 173 L S (rz_mk h ι, w) = rg Z d rx_m275 79 L S (rz_mk h ι, w) := rz_s1 fun _ => rfl
theorem g275_176 : rg Z d rx_m275 176 [l0, l1, l2, some (.int x), l4, l5] S (rz_mk h ι, w) = rg Z d rx_m275 177 [l0, l1, l2, some (.int x), l4, l5] (.int x :: S) (rz_mk h ι, w) := rz_s1 fun _ => rfl
theorem g275_177 : rg Z d rx_m275 177 [l0, some (.int x), l2, l3, l4, l5] S (rz_mk h ι, w) = rg Z d rx_m275 178 [l0, some (.int x), l2, l3, l4, l5] (.int x :: S) (rz_mk h ι, w) := rz_s1 fun _ => rfl
theorem g275_178 : rg Z d rx_m275 178 L (.int y :: .int x :: S) (rz_mk h ι, w) = if x = y then rg Z d rx_m275 181 L S (rz_mk h ι, w) else rg Z d rx_m275 183 L S (rz_mk h ι, w) := rz_if2 (pc := 178) (t := 183) (off := 5) (cc := .ne) (by decide) rfl
theorem g275_181 : rg Z d rx_m275 181 [l0, l1, some (.int x), l3, l4, l5] S (rz_mk h ι, w) = rg Z d rx_m275 182 [l0, l1, some (.int x), l3, l4, l5] (.int x :: S) (rz_mk h ι, w) := rz_s1 fun _ => rfl
theorem g275_182 : rg Z d rx_m275 182 L [.int x] (rz_mk h ι, w) = some (.inl (some (.int x)), (rz_mk h ι, w)) := rz_reti rfl rfl rfl
theorem g275_183 : rg Z d rx_m275 183 [l0, some (.int z), some (.int x), l3, l4, l5] S (rz_mk h ι, w) = rg Z d rx_m275 186 [l0, some (.int z), some (.int (x + 1)), l3, l4, l5] S (rz_mk h ι, w) := rz_s1 fun _ => rfl
theorem g275_186 : rg Z d rx_m275 186 L S (rz_mk h ι, w) = rg Z d rx_m275 27 L S (rz_mk h ι, w) := rz_s1 fun _ => rfl
theorem g275_189 : rg Z d rx_m275 189 L S (rz_mk h ι, w) = rg Z d rx_m275 190 L (.int (-1) :: S) (rz_mk h ι, w) := rz_s1 fun _ => rfl
theorem g275_190 : rg Z d rx_m275 190 L [.int x] (rz_mk h ι, w) = some (.inl (some (.int x)), (rz_mk h ι, w)) := rz_reti rfl rfl rfl
theorem e275 : rz_f Z (d + 1) 275 [.ref t0, .int s1] σ = rg Z d rx_m275 0 [some (.ref t0), some (.int s1), none, none, none, none] [] σ := rz_f_eq rfl (Nat.le_of_ble_eq_true rfl)
theorem g276_0 : rg Z d rx_m276 0 [some (.ref a), l1, l2, l3, l4] S (rz_mk h ι, w) = rg Z d rx_m276 1 [some (.ref a), l1, l2, l3, l4] (.ref a :: S) (rz_mk h ι, w) := rz_s1 fun _ => rfl
theorem g276_1 : rg Z d rx_m276 1 L S (rz_mk h ι, w) = rg Z d rx_m276 2 L (.int 0 :: S) (rz_mk h ι, w) := rz_s1 fun _ => rfl
theorem g276_2 (c : rz_fI h a 12 0) (hz : Z.2.1 ≤ a) : rg Z d rx_m276 2 L (.int x :: .ref a :: S) (rz_mk h ι, w) = rg Z d rx_m276 5 L S (rz_mk h (rz_up ι a 0 x), w) := rz_pI rfl c hz
theorem g276_5 : rg Z d rx_m276 5 [some (.ref a), l1, l2, l3, l4] S (rz_mk h ι, w) = rg Z d rx_m276 6 [some (.ref a), l1, l2, l3, l4] (.ref a :: S) (rz_mk h ι, w) := rz_s1 fun _ => rfl
theorem g276_6 : rg Z d rx_m276 6 [l0, some (.int x), l2, l3, l4] S (rz_mk h ι, w) = rg Z d rx_m276 7 [l0, some (.int x), l2, l3, l4] (.int x :: S) (rz_mk h ι, w) := rz_s1 fun _ => rfl
theorem g276_7 : rg Z d rx_m276 7 L S (rz_mk h ι, w) = rg Z d rx_m276 8 L (.int 0 :: S) (rz_mk h ι, w) := rz_s1 fun _ => rfl
theorem g276_8 : rg Z d rx_m276 8 L S (rz_mk h ι, w) = rg Z d rx_m276 10 L (.int 99 :: S) (rz_mk h ι, w) := rz_s1 fun _ => rfl
theorem g276_10 : rg Z d rx_m276 10 L (v3 :: v2 :: v1 :: [.ref t0]) (rz_mk h ι, w) = rz_k true (rz_f Z d 175 [v1, v2, v3] (rz_mk h ι, w)) (fun v σ' => rg Z d rx_m276 13 L (v.toList ++ [.ref t0]) σ') := rz_cs (pc := 10) (n := 3) (mi := 175) (S := v3 :: v2 :: v1 :: [.ref t0]) (rest := [.ref t0]) rfl rfl (Nat.le_of_ble_eq_true rfl) (Nat.le_of_ble_eq_true rfl)
theorem g276_13 : rg Z d rx_m276 13 L (.int x :: S) (rz_mk h ι, w) = if x = 0 then rg Z d rx_m276 16 L S (rz_mk h ι, w) else rg Z d rx_m276 20 L S (rz_mk h ι, w) := rz_if1 (pc := 13) (t := 20) (off := 7) (cc := .ne) (by decide) rfl
theorem g276_16 : rg Z d rx_m276 16 L S (rz_mk h ι, w) = rg Z d rx_m276 17 L (.int 1 :: S) (rz_mk h ι, w) := rz_s1 fun _ => rfl
theorem g276_17 : rg Z d rx_m276 17 L S (rz_mk h ι, w) = rg Z d rx_m276 21 L S (rz_mk h ι, w) := rz_s1 fun _ => rfl
theorem g276_20 : rg Z d rx_m276 20 L S (rz_mk h ι, w) = rg Z d rx_m276 21 L (.int 0 :: S) (rz_mk h ι, w) := rz_s1 fun _ => rfl
theorem g276_21 : rg Z d rx_m276 21 L S (rz_mk h ι, w) = rg Z d rx_m276 22 L (.int 1 :: S) (rz_mk h ι, w) := rz_s1 fun _ => rfl
theorem g276_22 : rg Z d rx_m276 22 L S (rz_mk h ι, w) = rg Z d rx_m276 23 L (.int 1 :: S) (rz_mk h ι, w) := rz_s1 fun _ => rfl
theorem g276_23 (c : rz_oc h a 12) : rg Z d rx_m276 23 L (v3 :: v2 :: v1 :: .ref a :: []) (rz_mk h ι, w) = rz_k true (rz_f Z d 174 [.ref a, v1, v2, v3] (rz_mk h ι, w)) (fun v σ' => rg Z d rx_m276 26 L (v.toList ++ []) σ') := rz_cv (pc := 23) (n := 3) (mi := 174) (S := v3 :: v2 :: v1 :: .ref a :: []) (rest := []) rfl rfl (Nat.le_of_ble_eq_true rfl) (Nat.le_of_ble_eq_true rfl) c
theorem g276_26 : rg Z d rx_m276 26 L (.int x :: S) (rz_mk h ι, w) = if x = 0 then rg Z d rx_m276 31 L S (rz_mk h ι, w) else rg Z d rx_m276 29 L S (rz_mk h ι, w) := rz_if1 (pc := 26) (t := 31) (off := 5) (cc := .eq) (by decide) rfl
theorem g276_29 : rg Z d rx_m276 29 L S (rz_mk h ι, w) = rg Z d rx_m276 30 L (.int 0 :: S) (rz_mk h ι, w) := rz_s1 fun _ => rfl
theorem g276_30 : rg Z d rx_m276 30 L [.int x] (rz_mk h ι, w) = some (.inl (some (.int x)), (rz_mk h ι, w)) := rz_reti rfl rfl rfl
theorem g276_31 : rg Z d rx_m276 31 [some (.ref a), l1, l2, l3, l4] S (rz_mk h ι, w) = rg Z d rx_m276 32 [some (.ref a), l1, l2, l3, l4] (.ref a :: S) (rz_mk h ι, w) := rz_s1 fun _ => rfl
theorem g276_32 (c : rz_fR h a 12 25) : rg Z d rx_m276 32 L (.ref a :: S) (rz_mk h ι, w) = rg Z d rx_m276 35 L (rz_rv h a 25 :: S) (rz_mk h ι, w) := rz_gR rfl (by decide) c
theorem g276_35 : rg Z d rx_m276 35 L S (rz_mk h ι, w) = rg Z d rx_m276 37 L (.int 56 :: S) (rz_mk h ι, w) := rz_s1 fun _ => rfl
theorem g276_37 (c : rz_ar h a 0) (hi : rz_ix x (rz_ln h a)) : rg Z d rx_m276 37 L (.int x :: .ref a :: S) (rz_mk h ι, w) = rg Z d rx_m276 38 L (.int (ι a x.toNatClampNeg) :: S) (rz_mk h ι, w) := rz_iald rfl c hi
theorem g276_38 : rg Z d rx_m276 38 [l0, some (.int z), l2, l3, l4] (.int x :: S) (rz_mk h ι, w) = rg Z d rx_m276 39 [l0, some (.int z), some (.int x), l3, l4] S (rz_mk h ι, w) := rz_s1 fun _ => rfl
theorem g276_39 : rg Z d rx_m276 39 L S (rz_mk h ι, w) = rg Z d rx_m276 40 L (.int 0 :: S) (rz_mk h ι, w) := rz_s1 fun _ => rfl
theorem g276_40 : rg Z d rx_m276 40 [l0, l1, some (.int z), l3, l4] (.int x :: S) (rz_mk h ι, w) = rg Z d rx_m276 41 [l0, l1, some (.int z), some (.int x), l4] S (rz_mk h ι, w) := rz_s1 fun _ => rfl
theorem g276_41 : rg Z d rx_m276 41 [l0, l1, l2, some (.int x), l4] S (rz_mk h ι, w) = rg Z d rx_m276 42 [l0, l1, l2, some (.int x), l4] (.int x :: S) (rz_mk h ι, w) := rz_s1 fun _ => rfl
theorem g276_42 : rg Z d rx_m276 42 [some (.ref a), l1, l2, l3, l4] S (rz_mk h ι, w) = rg Z d rx_m276 43 [some (.ref a), l1, l2, l3, l4] (.ref a :: S) (rz_mk h ι, w) := rz_s1 fun _ => rfl
theorem g276_43 (c : rz_fR h a 12 25) : rg Z d rx_m276 43 L (.ref a :: S) (rz_mk h ι, w) = rg Z d rx_m276 46 L (rz_rv h a 25 :: S) (rz_mk h ι, w) := rz_gR rfl (by decide) c
theorem g276_46 : rg Z d rx_m276 46 L S (rz_mk h ι, w) = rg Z d rx_m276 48 L (.int 57 :: S) (rz_mk h ι, w) := rz_s1 fun _ => rfl
theorem g276_48 (c : rz_ar h a 0) (hi : rz_ix x (rz_ln h a)) : rg Z d rx_m276 48 L (.int x :: .ref a :: S) (rz_mk h ι, w) = rg Z d rx_m276 49 L (.int (ι a x.toNatClampNeg) :: S) (rz_mk h ι, w) := rz_iald rfl c hi
theorem g276_49 : rg Z d rx_m276 49 L (.int y :: .int x :: S) (rz_mk h ι, w) = if x < y then rg Z d rx_m276 52 L S (rz_mk h ι, w) else rg Z d rx_m276 135 L S (rz_mk h ι, w) := rz_if2 (pc := 49) (t := 135) (off := 86) (cc := .ge) (by decide) rfl
theorem g276_52 : rg Z d rx_m276 52 L S (rz_mk h ι, w) = rg Z d rx_m276 53 L (.int 0 :: S) (rz_mk h ι, w) := rz_s1 fun _ => rfl
theorem g276_53 : rg Z d rx_m276 53 [l0, l1, l2, some (.int z), l4] (.int x :: S) (rz_mk h ι, w) = rg Z d rx_m276 55 [l0, l1, l2, some (.int z), some (.int x)] S (rz_mk h ι, w) := rz_s1 fun _ => rfl
theorem g276_55 : rg Z d rx_m276 55 [l0, l1, l2, l3, some (.int x)] S (rz_mk h ι, w) = rg Z d rx_m276 57 [l0, l1, l2, l3, some (.int x)] (.int x :: S) (rz_mk h ι, w) := rz_s1 fun _ => rfl
theorem g276_57 : rg Z d rx_m276 57 [some (.ref a), l1, l2, l3, l4] S (rz_mk h ι, w) = rg Z d rx_m276 58 [some (.ref a), l1, l2, l3, l4] (.ref a :: S) (rz_mk h ι, w) := rz_s1 fun _ => rfl
theorem g276_58 (c : rz_fR h a 12 25) : rg Z d rx_m276 58 L (.ref a :: S) (rz_mk h ι, w) = rg Z d rx_m276 61 L (rz_rv h a 25 :: S) (rz_mk h ι, w) := rz_gR rfl (by decide) c
theorem g276_61 : rg Z d rx_m276 61 L S (rz_mk h ι, w) = rg Z d rx_m276 63 L (.int 57 :: S) (rz_mk h ι, w) := rz_s1 fun _ => rfl
theorem g276_63 (c : rz_ar h a 0) (hi : rz_ix x (rz_ln h a)) : rg Z d rx_m276 63 L (.int x :: .ref a :: S) (rz_mk h ι, w) = rg Z d rx_m276 64 L (.int (ι a x.toNatClampNeg) :: S) (rz_mk h ι, w) := rz_iald rfl c hi
theorem g276_64 : rg Z d rx_m276 64 L (.int y :: .int x :: S) (rz_mk h ι, w) = if x < y then rg Z d rx_m276 67 L S (rz_mk h ι, w) else rg Z d rx_m276 129 L S (rz_mk h ι, w) := rz_if2 (pc := 64) (t := 129) (off := 65) (cc := .ge) (by decide) rfl
theorem g276_67 : rg Z d rx_m276 67 [l0, l1, some (.int x), l3, l4] S (rz_mk h ι, w) = rg Z d rx_m276 68 [l0, l1, some (.int x), l3, l4] (.int x :: S) (rz_mk h ι, w) := rz_s1 fun _ => rfl
theorem g276_68 : rg Z d rx_m276 68 [l0, l1, l2, some (.int x), l4] S (rz_mk h ι, w) = rg Z d rx_m276 69 [l0, l1, l2, some (.int x), l4] (.int x :: S) (rz_mk h ι, w) := rz_s1 fun _ => rfl
theorem g276_69 : rg Z d rx_m276 69 [l0, l1, l2, l3, some (.int x)] S (rz_mk h ι, w) = rg Z d rx_m276 71 [l0, l1, l2, l3, some (.int x)] (.int x :: S) (rz_mk h ι, w) := rz_s1 fun _ => rfl
theorem g276_71 : rg Z d rx_m276 71 L (.int y :: .int x :: S) (rz_mk h ι, w) = if x = y then rg Z d rx_m276 120 L S (rz_mk h ι, w) else rg Z d rx_m276 74 L S (rz_mk h ι, w) := rz_if2 (pc := 71) (t := 120) (off := 49) (cc := .eq) (by decide) rfl
theorem g276_74 : rg Z d rx_m276 74 [some (.ref a), l1, l2, l3, l4] S (rz_mk h ι, w) = rg Z d rx_m276 75 [some (.ref a), l1, l2, l3, l4] (.ref a :: S) (rz_mk h ι, w) := rz_s1 fun _ => rfl
theorem g276_75 (c : rz_fR h a 12 25) : rg Z d rx_m276 75 L (.ref a :: S) (rz_mk h ι, w) = rg Z d rx_m276 78 L (rz_rv h a 25 :: S) (rz_mk h ι, w) := rz_gR rfl (by decide) c
theorem g276_78 : rg Z d rx_m276 78 [l0, l1, l2, some (.int x), l4] S (rz_mk h ι, w) = rg Z d rx_m276 79 [l0, l1, l2, some (.int x), l4] (.int x :: S) (rz_mk h ι, w) := rz_s1 fun _ => rfl
theorem g276_79 : rg Z d rx_m276 79 L (v2 :: v1 :: [.int s0]) (rz_mk h ι, w) = rz_k true (rz_f Z d 222 [v1, v2] (rz_mk h ι, w)) (fun v σ' => rg Z d rx_m276 82 L (v.toList ++ [.int s0]) σ') := rz_cs (pc := 79) (n := 2) (mi := 222) (S := v2 :: v1 :: [.int s0]) (rest := [.int s0]) rfl rfl (Nat.le_of_ble_eq_true rfl) (Nat.le_of_ble_eq_true rfl)
theorem g276_82 : rg Z d rx_m276 82 L (.int x :: S) (rz_mk h ι, w) = if x = 0 then rg Z d rx_m276 120 L S (rz_mk h ι, w) else rg Z d rx_m276 85 L S (rz_mk h ι, w) := rz_if1 (pc := 82) (t := 120) (off := 38) (cc := .eq) (by decide) rfl
theorem g276_85 : rg Z d rx_m276 85 [some (.ref a), l1, l2, l3, l4] S (rz_mk h ι, w) = rg Z d rx_m276 86 [some (.ref a), l1, l2, l3, l4] (.ref a :: S) (rz_mk h ι, w) := rz_s1 fun _ => rfl
theorem g276_86 (c : rz_fR h a 12 25) : rg Z d rx_m276 86 L (.ref a :: S) (rz_mk h ι, w) = rg Z d rx_m276 89 L (rz_rv h a 25 :: S) (rz_mk h ι, w) := rz_gR rfl (by decide) c
theorem g276_89 : rg Z d rx_m276 89 [l0, l1, l2, l3, some (.int x)] S (rz_mk h ι, w) = rg Z d rx_m276 91 [l0, l1, l2, l3, some (.int x)] (.int x :: S) (rz_mk h ι, w) := rz_s1 fun _ => rfl
theorem g276_91 : rg Z d rx_m276 91 L (v2 :: v1 :: [.int s0]) (rz_mk h ι, w) = rz_k true (rz_f Z d 222 [v1, v2] (rz_mk h ι, w)) (fun v σ' => rg Z d rx_m276 94 L (v.toList ++ [.int s0]) σ') := rz_cs (pc := 91) (n := 2) (mi := 222) (S := v2 :: v1 :: [.int s0]) (rest := [.int s0]) rfl rfl (Nat.le_of_ble_eq_true rfl) (Nat.le_of_ble_eq_true rfl)
theorem g276_94 : rg Z d rx_m276 94 L (.int x :: S) (rz_mk h ι, w) = if x = 0 then rg Z d rx_m276 120 L S (rz_mk h ι, w) else rg Z d rx_m276 97 L S (rz_mk h ι, w) := rz_if1 (pc := 94) (t := 120) (off := 26) (cc := .eq) (by decide) rfl
theorem g276_97 : rg Z d rx_m276 97 [some (.ref a), l1, l2, l3, l4] S (rz_mk h ι, w) = rg Z d rx_m276 98 [some (.ref a), l1, l2, l3, l4] (.ref a :: S) (rz_mk h ι, w) := rz_s1 fun _ => rfl
theorem g276_98 : rg Z d rx_m276 98 [some (.ref a), l1, l2, l3, l4] S (rz_mk h ι, w) = rg Z d rx_m276 99 [some (.ref a), l1, l2, l3, l4] (.ref a :: S) (rz_mk h ι, w) := rz_s1 fun _ => rfl
theorem g276_99 (c : rz_fR h a 12 25) : rg Z d rx_m276 99 L (.ref a :: S) (rz_mk h ι, w) = rg Z d rx_m276 102 L (rz_rv h a 25 :: S) (rz_mk h ι, w) := rz_gR rfl (by decide) c
theorem g276_102 : rg Z d rx_m276 102 [l0, l1, l2, some (.int x), l4] S (rz_mk h ι, w) = rg Z d rx_m276 103 [l0, l1, l2, some (.int x), l4] (.int x :: S) (rz_mk h ι, w) := rz_s1 fun _ => rfl
theorem g276_103 : rg Z d rx_m276 103 [l0, l1, l2, l3, some (.int x)] S (rz_mk h ι, w) = rg Z d rx_m276 105 [l0, l1, l2, l3, some (.int x)] (.int x :: S) (rz_mk h ι, w) := rz_s1 fun _ => rfl
theorem g276_105 (c : rz_oc h a 12) : rg Z d rx_m276 105 L (v3 :: v2 :: v1 :: .ref a :: [.int s0]) (rz_mk h ι, w) = rz_k true (rz_f Z d 221 [.ref a, v1, v2, v3] (rz_mk h ι, w)) (fun v σ' => rg Z d rx_m276 108 L (v.toList ++ [.int s0]) σ') := rz_cv (pc := 105) (n := 3) (mi := 221) (S := v3 :: v2 :: v1 :: .ref a :: [.int s0]) (rest := [.int s0]) rfl rfl (Nat.le_of_ble_eq_true rfl) (Nat.le_of_ble_eq_true rfl) c
theorem g276_108 : rg Z d rx_m276 108 [l0, some (.int x), l2, l3, l4] S (rz_mk h ι, w) = rg Z d rx_m276 109 [l0, some (.int x), l2, l3, l4] (.int x :: S) (rz_mk h ι, w) := rz_s1 fun _ => rfl
theorem g276_109 : rg Z d rx_m276 109 L (.int y :: .int x :: S) (rz_mk h ι, w) = if y < x then rg Z d rx_m276 112 L S (rz_mk h ι, w) else rg Z d rx_m276 120 L S (rz_mk h ι, w) := rz_if2 (pc := 109) (t := 120) (off := 11) (cc := .le) (by decide) rfl
theorem g276_112 : rg Z d rx_m276 112 L S (rz_mk h ι, w) = rg Z d rx_m276 113 L (.int 1 :: S) (rz_mk h ι, w) := rz_s1 fun _ => rfl
theorem g276_113 : rg Z d rx_m276 113 [l0, l1, l2, some (.int x), l4] S (rz_mk h ι, w) = rg Z d rx_m276 114 [l0, l1, l2, some (.int x), l4] (.int x :: S) (rz_mk h ι, w) := rz_s1 fun _ => rfl
theorem g276_114 : rg Z d rx_m276 114 L (.int y :: .int x :: S) (rz_mk h ι, w) = rg Z d rx_m276 115 L (.int (x <<< (y &&& 31)) :: S) (rz_mk h ι, w) := rz_s1 fun _ => rfl
theorem g276_115 : rg Z d rx_m276 115 L S (rz_mk h ι, w) = rg Z d rx_m276 116 L (.int (-1) :: S) (rz_mk h ι, w) := rz_s1 fun _ => rfl
theorem g276_116 : rg Z d rx_m276 116 L (.int y :: .int x :: S) (rz_mk h ι, w) = rg Z d rx_m276 117 L (.int (x ^^^ y) :: S) (rz_mk h ι, w) := rz_s1 fun _ => rfl
theorem g276_117 : rg Z d rx_m276 117 L S (rz_mk h ι, w) = rg Z d rx_m276 121 L S (rz_mk h ι, w) := rz_s1 fun _ => rfl
theorem g276_120 : rg Z d rx_m276 120 L S (rz_mk h ι, w) = rg Z d rx_m276 121 L (.int (-1) :: S) (rz_mk h ι, w) := rz_s1 fun _ => rfl
theorem g276_121 : rg Z d rx_m276 121 L (.int y :: .int x :: S) (rz_mk h ι, w) = rg Z d rx_m276 122 L (.int (x &&& y) :: S) (rz_mk h ι, w) := rz_s1 fun _ => rfl
theorem g276_122 : rg Z d rx_m276 122 [l0, some (.int z), l2, l3, l4] (.int x :: S) (rz_mk h ι, w) = rg Z d rx_m276 123 [l0, some (.int z), some (.int x), l3, l4] S (rz_mk h ι, w) := rz_s1 fun _ => rfl
theorem g276_123 : rg Z d rx_m276 123 [l0, l1, l2, some (.int z), some (.int x)] S (rz_mk h ι, w) = rg Z d rx_m276 126 [l0, l1, l2, some (.int z), some (.int (x + 1))] S (rz_mk h ι, w) := rz_s1 fun _ => rfl
theorem g276_126 : rg Z d rx_m276 126 L S (rz_mk h ι, w) = rg Z d rx_m276 55 L S (rz_mk h ι, w) := rz_s1 fun _ => rfl
theorem g276_129 : rg Z d rx_m276 129 [l0, l1, some (.int z), some (.int x), l4] S (rz_mk h ι, w) = rg Z d rx_m276 132 [l0, l1, some (.int z), some (.int (x + 1)), l4] S (rz_mk h ι, w) := rz_s1 fun _ => rfl
theorem g276_132 : rg Z d rx_m276 132 L S (rz_mk h ι, w) = rg Z d rx_m276 41 L S (rz_mk h ι, w) := rz_s1 fun _ => rfl
theorem g276_135 : rg Z d rx_m276 135 [l0, l1, some (.int x), l3, l4] S (rz_mk h ι, w) = rg Z d rx_m276 136 [l0, l1, some (.int x), l3, l4] (.int x :: S) (rz_mk h ι, w) := rz_s1 fun _ => rfl
theorem g276_136 : rg Z d rx_m276 136 L [.int x] (rz_mk h ι, w) = some (.inl (some (.int x)), (rz_mk h ι, w)) := rz_reti rfl rfl rfl
theorem e276 : rz_f Z (d + 1) 276 [.ref t0, .int s1] σ = rg Z d rx_m276 0 [some (.ref t0), some (.int s1), none, none, none] [] σ := rz_f_eq rfl (Nat.le_of_ble_eq_true rfl)
theorem g277_0 : rg Z d rx_m277 0 [some (.ref a), l1, l2, l3] S (rz_mk h ι, w) = rg Z d rx_m277 1 [some (.ref a), l1, l2, l3] (.ref a :: S) (rz_mk h ι, w) := rz_s1 fun _ => rfl
theorem g277_1 : rg Z d rx_m277 1 L S (rz_mk h ι, w) = rg Z d rx_m277 2 L (.int 0 :: S) (rz_mk h ι, w) := rz_s1 fun _ => rfl
theorem g277_2 (c : rz_fI h a 12 0) (hz : Z.2.1 ≤ a) : rg Z d rx_m277 2 L (.int x :: .ref a :: S) (rz_mk h ι, w) = rg Z d rx_m277 5 L S (rz_mk h (rz_up ι a 0 x), w) := rz_pI rfl c hz
theorem g277_5 : rg Z d rx_m277 5 [some (.ref a), l1, l2, l3] S (rz_mk h ι, w) = rg Z d rx_m277 6 [some (.ref a), l1, l2, l3] (.ref a :: S) (rz_mk h ι, w) := rz_s1 fun _ => rfl
theorem g277_6 : rg Z d rx_m277 6 [some (.ref a), l1, l2, l3] S (rz_mk h ι, w) = rg Z d rx_m277 7 [some (.ref a), l1, l2, l3] (.ref a :: S) (rz_mk h ι, w) := rz_s1 fun _ => rfl
theorem g277_7 : rg Z d rx_m277 7 [l0, some (.int x), l2, l3] S (rz_mk h ι, w) = rg Z d rx_m277 8 [l0, some (.int x), l2, l3] (.int x :: S) (rz_mk h ι, w) := rz_s1 fun _ => rfl
theorem g277_8 (c : rz_oc h a 12) : rg Z d rx_m277 8 L (v1 :: .ref a :: [.ref t0]) (rz_mk h ι, w) = rz_k true (rz_f Z d 236 [.ref a, v1] (rz_mk h ι, w)) (fun v σ' => rg Z d rx_m277 11 L (v.toList ++ [.ref t0]) σ') := rz_cv (pc := 8) (n := 1) (mi := 236) (S := v1 :: .ref a :: [.ref t0]) (rest := [.ref t0]) rfl rfl (Nat.le_of_ble_eq_true rfl) (Nat.le_of_ble_eq_true rfl) c
theorem g277_11 : rg Z d rx_m277 11 L (.int x :: S) (rz_mk h ι, w) = if x = 0 then rg Z d rx_m277 14 L S (rz_mk h ι, w) else rg Z d rx_m277 18 L S (rz_mk h ι, w) := rz_if1 (pc := 11) (t := 18) (off := 7) (cc := .ne) (by decide) rfl
theorem g277_14 : rg Z d rx_m277 14 L S (rz_mk h ι, w) = rg Z d rx_m277 15 L (.int 1 :: S) (rz_mk h ι, w) := rz_s1 fun _ => rfl
theorem g277_15 : rg Z d rx_m277 15 L S (rz_mk h ι, w) = rg Z d rx_m277 19 L S (rz_mk h ι, w) := rz_s1 fun _ => rfl
theorem g277_18 : rg Z d rx_m277 18 L S (rz_mk h ι, w) = rg Z d rx_m277 19 L (.int 0 :: S) (rz_mk h ι, w) := rz_s1 fun _ => rfl
theorem g277_19 : rg Z d rx_m277 19 L S (rz_mk h ι, w) = rg Z d rx_m277 20 L (.int 1 :: S) (rz_mk h ι, w) := rz_s1 fun _ => rfl
theorem g277_20 : rg Z d rx_m277 20 L S (rz_mk h ι, w) = rg Z d rx_m277 21 L (.int 0 :: S) (rz_mk h ι, w) := rz_s1 fun _ => rfl
theorem g277_21 (c : rz_oc h a 12) : rg Z d rx_m277 21 L (v3 :: v2 :: v1 :: .ref a :: []) (rz_mk h ι, w) = rz_k true (rz_f Z d 174 [.ref a, v1, v2, v3] (rz_mk h ι, w)) (fun v σ' => rg Z d rx_m277 24 L (v.toList ++ []) σ') := rz_cv (pc := 21) (n := 3) (mi := 174) (S := v3 :: v2 :: v1 :: .ref a :: []) (rest := []) rfl rfl (Nat.le_of_ble_eq_true rfl) (Nat.le_of_ble_eq_true rfl) c
theorem g277_24 : rg Z d rx_m277 24 L (.int x :: S) (rz_mk h ι, w) = if x = 0 then rg Z d rx_m277 29 L S (rz_mk h ι, w) else rg Z d rx_m277 27 L S (rz_mk h ι, w) := rz_if1 (pc := 24) (t := 29) (off := 5) (cc := .eq) (by decide) rfl
theorem g277_27 : rg Z d rx_m277 27 L S (rz_mk h ι, w) = rg Z d rx_m277 28 L (.int 0 :: S) (rz_mk h ι, w) := rz_s1 fun _ => rfl
theorem g277_28 : rg Z d rx_m277 28 L [.int x] (rz_mk h ι, w) = some (.inl (some (.int x)), (rz_mk h ι, w)) := rz_reti rfl rfl rfl
theorem g277_29 : rg Z d rx_m277 29 L S (rz_mk h ι, w) = rg Z d rx_m277 30 L (.int 0 :: S) (rz_mk h ι, w) := rz_s1 fun _ => rfl
theorem g277_30 : rg Z d rx_m277 30 [l0, some (.int z), l2, l3] (.int x :: S) (rz_mk h ι, w) = rg Z d rx_m277 31 [l0, some (.int z), some (.int x), l3] S (rz_mk h ι, w) := rz_s1 fun _ => rfl
theorem g277_31 : rg Z d rx_m277 31 L S (rz_mk h ι, w) = rg Z d rx_m277 32 L (.int 0 :: S) (rz_mk h ι, w) := rz_s1 fun _ => rfl
theorem g277_32 : rg Z d rx_m277 32 [l0, l1, some (.int z), l3] (.int x :: S) (rz_mk h ι, w) = rg Z d rx_m277 33 [l0, l1, some (.int z), some (.int x)] S (rz_mk h ι, w) := rz_s1 fun _ => rfl
theorem g277_33 : rg Z d rx_m277 33 [l0, l1, l2, some (.int x)] S (rz_mk h ι, w) = rg Z d rx_m277 34 [l0, l1, l2, some (.int x)] (.int x :: S) (rz_mk h ι, w) := rz_s1 fun _ => rfl
theorem g277_34 : rg Z d rx_m277 34 L S (rz_mk h ι, w) = rg Z d rx_m277 35 L (.int 3 :: S) (rz_mk h ι, w) := rz_s1 fun _ => rfl
theorem g277_35 : rg Z d rx_m277 35 L (.int y :: .int x :: S) (rz_mk h ι, w) = if x < y then rg Z d rx_m277 38 L S (rz_mk h ι, w) else rg Z d rx_m277 92 L S (rz_mk h ι, w) := rz_if2 (pc := 35) (t := 92) (off := 57) (cc := .ge) (by decide) rfl
theorem g277_38 : rg Z d rx_m277 38 [some (.ref a), l1, l2, l3] S (rz_mk h ι, w) = rg Z d rx_m277 39 [some (.ref a), l1, l2, l3] (.ref a :: S) (rz_mk h ι, w) := rz_s1 fun _ => rfl
theorem g277_39 (c : rz_fR h a 12 25) : rg Z d rx_m277 39 L (.ref a :: S) (rz_mk h ι, w) = rg Z d rx_m277 42 L (rz_rv h a 25 :: S) (rz_mk h ι, w) := rz_gR rfl (by decide) c
theorem g277_42 : rg Z d rx_m277 42 L S (rz_mk h ι, w) = rg Z d rx_m277 44 L (.int 58 :: S) (rz_mk h ι, w) := rz_s1 fun _ => rfl
theorem g277_44 (c : rz_ar h a 0) (hi : rz_ix x (rz_ln h a)) : rg Z d rx_m277 44 L (.int x :: .ref a :: S) (rz_mk h ι, w) = rg Z d rx_m277 45 L (.int (ι a x.toNatClampNeg) :: S) (rz_mk h ι, w) := rz_iald rfl c hi
theorem g277_45 : rg Z d rx_m277 45 L S (rz_mk h ι, w) = rg Z d rx_m277 46 L (.int (-1) :: S) (rz_mk h ι, w) := rz_s1 fun _ => rfl
theorem g277_46 : rg Z d rx_m277 46 L (.int y :: .int x :: S) (rz_mk h ι, w) = if x = y then rg Z d rx_m277 92 L S (rz_mk h ι, w) else rg Z d rx_m277 49 L S (rz_mk h ι, w) := rz_if2 (pc := 46) (t := 92) (off := 46) (cc := .eq) (by decide) rfl
theorem g277_49 : rg Z d rx_m277 49 [l0, l1, some (.int x), l3] S (rz_mk h ι, w) = rg Z d rx_m277 50 [l0, l1, some (.int x), l3] (.int x :: S) (rz_mk h ι, w) := rz_s1 fun _ => rfl
theorem g277_50 : rg Z d rx_m277 50 [some (.ref a), l1, l2, l3] S (rz_mk h ι, w) = rg Z d rx_m277 51 [some (.ref a), l1, l2, l3] (.ref a :: S) (rz_mk h ι, w) := rz_s1 fun _ => rfl
theorem g277_51 (c : rz_fR h a 12 25) : rg Z d rx_m277 51 L (.ref a :: S) (rz_mk h ι, w) = rg Z d rx_m277 54 L (rz_rv h a 25 :: S) (rz_mk h ι, w) := rz_gR rfl (by decide) c
theorem g277_54 : rg Z d rx_m277 54 [l0, some (.int x), l2, l3] S (rz_mk h ι, w) = rg Z d rx_m277 55 [l0, some (.int x), l2, l3] (.int x :: S) (rz_mk h ι, w) := rz_s1 fun _ => rfl
theorem g277_55 : rg Z d rx_m277 55 [l0, l1, l2, some (.int x)] S (rz_mk h ι, w) = rg Z d rx_m277 56 [l0, l1, l2, some (.int x)] (.int x :: S) (rz_mk h ι, w) := rz_s1 fun _ => rfl
theorem g277_56 : rg Z d rx_m277 56 L (v3 :: v2 :: v1 :: [.int s0]) (rz_mk h ι, w) = rz_k true (rz_f Z d 217 [v1, v2, v3] (rz_mk h ι, w)) (fun v σ' => rg Z d rx_m277 59 L (v.toList ++ [.int s0]) σ') := rz_cs (pc := 56) (n := 3) (mi := 217) (S := v3 :: v2 :: v1 :: [.int s0]) (rest := [.int s0]) rfl rfl (Nat.le_of_ble_eq_true rfl) (Nat.le_of_ble_eq_true rfl)
theorem g277_59 : rg Z d rx_m277 59 [some (.ref a), l1, l2, l3] S (rz_mk h ι, w) = rg Z d rx_m277 60 [some (.ref a), l1, l2, l3] (.ref a :: S) (rz_mk h ι, w) := rz_s1 fun _ => rfl
theorem g277_60 (c : rz_fR h a 12 25) : rg Z d rx_m277 60 L (.ref a :: S) (rz_mk h ι, w) = rg Z d rx_m277 63 L (rz_rv h a 25 :: S) (rz_mk h ι, w) := rz_gR rfl (by decide) c
theorem g277_63 : rg Z d rx_m277 63 [some (.ref a), l1, l2, l3] S (rz_mk h ι, w) = rg Z d rx_m277 64 [some (.ref a), l1, l2, l3] (.ref a :: S) (rz_mk h ι, w) := rz_s1 fun _ => rfl
theorem g277_64 (c : rz_fR h a 12 25) : rg Z d rx_m277 64 L (.ref a :: S) (rz_mk h ι, w) = rg Z d rx_m277 67 L (rz_rv h a 25 :: S) (rz_mk h ι, w) := rz_gR rfl (by decide) c
theorem g277_67 : rg Z d rx_m277 67 L S (rz_mk h ι, w) = rg Z d rx_m277 69 L (.int 58 :: S) (rz_mk h ι, w) := rz_s1 fun _ => rfl
theorem g277_69 (c : rz_ar h a 0) (hi : rz_ix x (rz_ln h a)) : rg Z d rx_m277 69 L (.int x :: .ref a :: S) (rz_mk h ι, w) = rg Z d rx_m277 70 L (.int (ι a x.toNatClampNeg) :: S) (rz_mk h ι, w) := rz_iald rfl c hi
theorem g277_70 : rg Z d rx_m277 70 [l0, l1, l2, some (.int x)] S (rz_mk h ι, w) = rg Z d rx_m277 71 [l0, l1, l2, some (.int x)] (.int x :: S) (rz_mk h ι, w) := rz_s1 fun _ => rfl
theorem g277_71 : rg Z d rx_m277 71 L (v3 :: v2 :: v1 :: [.int s0, .int s1]) (rz_mk h ι, w) = rz_k true (rz_f Z d 217 [v1, v2, v3] (rz_mk h ι, w)) (fun v σ' => rg Z d rx_m277 74 L (v.toList ++ [.int s0, .int s1]) σ') := rz_cs (pc := 71) (n := 3) (mi := 217) (S := v3 :: v2 :: v1 :: [.int s0, .int s1]) (rest := [.int s0, .int s1]) rfl rfl (Nat.le_of_ble_eq_true rfl) (Nat.le_of_ble_eq_true rfl)
theorem g277_74 : rg Z d rx_m277 74 L (.int y :: .int x :: S) (rz_mk h ι, w) = if x = y then rg Z d rx_m277 77 L S (rz_mk h ι, w) else rg Z d rx_m277 81 L S (rz_mk h ι, w) := rz_if2 (pc := 74) (t := 81) (off := 7) (cc := .ne) (by decide) rfl
theorem g277_77 : rg Z d rx_m277 77 L S (rz_mk h ι, w) = rg Z d rx_m277 78 L (.int 0 :: S) (rz_mk h ι, w) := rz_s1 fun _ => rfl
theorem g277_78 : rg Z d rx_m277 78 L S (rz_mk h ι, w) = rg Z d rx_m277 84 L S (rz_mk h ι, w) := rz_s1 fun _ => rfl
theorem g277_81 : rg Z d rx_m277 81 L S (rz_mk h ι, w) = rg Z d rx_m277 82 L (.int 1 :: S) (rz_mk h ι, w) := rz_s1 fun _ => rfl
theorem g277_82 : rg Z d rx_m277 82 [l0, l1, l2, some (.int x)] S (rz_mk h ι, w) = rg Z d rx_m277 83 [l0, l1, l2, some (.int x)] (.int x :: S) (rz_mk h ι, w) := rz_s1 fun _ => rfl
theorem g277_83 : rg Z d rx_m277 83 L (.int y :: .int x :: S) (rz_mk h ι, w) = rg Z d rx_m277 84 L (.int (x <<< (y &&& 31)) :: S) (rz_mk h ι, w) := rz_s1 fun _ => rfl
theorem g277_84 : rg Z d rx_m277 84 L (.int y :: .int x :: S) (rz_mk h ι, w) = rg Z d rx_m277 85 L (.int (x ||| y) :: S) (rz_mk h ι, w) := rz_s1 fun _ => rfl
theorem g277_85 : rg Z d rx_m277 85 [l0, some (.int z), l2, l3] (.int x :: S) (rz_mk h ι, w) = rg Z d rx_m277 86 [l0, some (.int z), some (.int x), l3] S (rz_mk h ι, w) := rz_s1 fun _ => rfl
theorem g277_86 : rg Z d rx_m277 86 [l0, l1, some (.int z), some (.int x)] S (rz_mk h ι, w) = rg Z d rx_m277 89 [l0, l1, some (.int z), some (.int (x + 1))] S (rz_mk h ι, w) := rz_s1 fun _ => rfl
theorem g277_89 : rg Z d rx_m277 89 L S (rz_mk h ι, w) = rg Z d rx_m277 33 L S (rz_mk h ι, w) := rz_s1 fun _ => rfl
theorem g277_92 : rg Z d rx_m277 92 [l0, l1, some (.int x), l3] S (rz_mk h ι, w) = rg Z d rx_m277 93 [l0, l1, some (.int x), l3] (.int x :: S) (rz_mk h ι, w) := rz_s1 fun _ => rfl
theorem g277_93 : rg Z d rx_m277 93 L [.int x] (rz_mk h ι, w) = some (.inl (some (.int x)), (rz_mk h ι, w)) := rz_reti rfl rfl rfl
theorem e277 : rz_f Z (d + 1) 277 [.ref t0, .int s1] σ = rg Z d rx_m277 0 [some (.ref t0), some (.int s1), none, none] [] σ := rz_f_eq rfl (Nat.le_of_ble_eq_true rfl)
theorem g278_0 : rg Z d rx_m278 0 [some (.ref a), l1] S (rz_mk h ι, w) = rg Z d rx_m278 1 [some (.ref a), l1] (.ref a :: S) (rz_mk h ι, w) := rz_s1 fun _ => rfl
theorem g278_1 : rg Z d rx_m278 1 [some (.ref a), l1] S (rz_mk h ι, w) = rg Z d rx_m278 2 [some (.ref a), l1] (.ref a :: S) (rz_mk h ι, w) := rz_s1 fun _ => rfl
theorem g278_2 (c : rz_fI h a 12 44) : rg Z d rx_m278 2 L (.ref a :: S) (rz_mk h ι, w) = rg Z d rx_m278 5 L (.int (ι a 44) :: S) (rz_mk h ι, w) := rz_gI rfl (by decide) c
theorem g278_5 : rg Z d rx_m278 5 L S (rz_mk h ι, w) = rg Z d rx_m278 8 L (.int 1103515245 :: S) (rz_mk h ι, w) := rz_s1 fun _ => rfl
theorem g278_8 : rg Z d rx_m278 8 L (.int y :: .int x :: S) (rz_mk h ι, w) = rg Z d rx_m278 9 L (.int (x * y) :: S) (rz_mk h ι, w) := rz_s1 fun _ => rfl
theorem g278_9 : rg Z d rx_m278 9 L S (rz_mk h ι, w) = rg Z d rx_m278 12 L (.int 12345 :: S) (rz_mk h ι, w) := rz_s1 fun _ => rfl
theorem g278_12 : rg Z d rx_m278 12 L (.int y :: .int x :: S) (rz_mk h ι, w) = rg Z d rx_m278 13 L (.int (x + y) :: S) (rz_mk h ι, w) := rz_s1 fun _ => rfl
theorem g278_13 (c : rz_fI h a 12 44) (hz : Z.2.1 ≤ a) : rg Z d rx_m278 13 L (.int x :: .ref a :: S) (rz_mk h ι, w) = rg Z d rx_m278 16 L S (rz_mk h (rz_up ι a 44 x), w) := rz_pI rfl c hz
theorem g278_16 : rg Z d rx_m278 16 [some (.ref a), l1] S (rz_mk h ι, w) = rg Z d rx_m278 17 [some (.ref a), l1] (.ref a :: S) (rz_mk h ι, w) := rz_s1 fun _ => rfl
theorem g278_17 (c : rz_fI h a 12 44) : rg Z d rx_m278 17 L (.ref a :: S) (rz_mk h ι, w) = rg Z d rx_m278 20 L (.int (ι a 44) :: S) (rz_mk h ι, w) := rz_gI rfl (by decide) c
theorem g278_20 : rg Z d rx_m278 20 L S (rz_mk h ι, w) = rg Z d rx_m278 22 L (.int 16 :: S) (rz_mk h ι, w) := rz_s1 fun _ => rfl
theorem g278_22 : rg Z d rx_m278 22 L (.int y :: .int x :: S) (rz_mk h ι, w) = rg Z d rx_m278 23 L (.int (x >>> (y &&& 31)) :: S) (rz_mk h ι, w) := rz_s1 fun _ => rfl
theorem g278_23 : rg Z d rx_m278 23 L S (rz_mk h ι, w) = rg Z d rx_m278 26 L (.int 32767 :: S) (rz_mk h ι, w) := rz_s1 fun _ => rfl
theorem g278_26 : rg Z d rx_m278 26 L (.int y :: .int x :: S) (rz_mk h ι, w) = rg Z d rx_m278 27 L (.int (x &&& y) :: S) (rz_mk h ι, w) := rz_s1 fun _ => rfl
theorem g278_27 : rg Z d rx_m278 27 [l0, some (.int x)] S (rz_mk h ι, w) = rg Z d rx_m278 28 [l0, some (.int x)] (.int x :: S) (rz_mk h ι, w) := rz_s1 fun _ => rfl
theorem g278_28 (c : ¬ y = 0) : rg Z d rx_m278 28 L (.int y :: .int x :: S) (rz_mk h ι, w) = rg Z d rx_m278 29 L (.int (x - x / y * y) :: S) (rz_mk h ι, w) := rz_rem rfl c
theorem g278_29 : rg Z d rx_m278 29 L [.int x] (rz_mk h ι, w) = some (.inl (some (.int x)), (rz_mk h ι, w)) := rz_reti rfl rfl rfl
theorem e278 : rz_f Z (d + 1) 278 [.ref t0, .int s1] σ = rg Z d rx_m278 0 [some (.ref t0), some (.int s1)] [] σ := rz_f_eq rfl (Nat.le_of_ble_eq_true rfl)
theorem g279_0 : rg Z d rx_m279 0 [some (.ref a), l1, l2, l3, l4, l5] S (rz_mk h ι, w) = rg Z d rx_m279 1 [some (.ref a), l1, l2, l3, l4, l5] (.ref a :: S) (rz_mk h ι, w) := rz_s1 fun _ => rfl
theorem g279_1 (c : rz_fR h a 12 25) : rg Z d rx_m279 1 L (.ref a :: S) (rz_mk h ι, w) = rg Z d rx_m279 4 L (rz_rv h a 25 :: S) (rz_mk h ι, w) := rz_gR rfl (by decide) c
theorem g279_4 : rg Z d rx_m279 4 [some (.ref a), l1, l2, l3, l4, l5] S (rz_mk h ι, w) = rg Z d rx_m279 5 [some (.ref a), l1, l2, l3, l4, l5] (.ref a :: S) (rz_mk h ι, w) := rz_s1 fun _ => rfl
theorem g279_5 (c : rz_fR h a 12 26) : rg Z d rx_m279 5 L (.ref a :: S) (rz_mk h ι, w) = rg Z d rx_m279 8 L (rz_rv h a 26 :: S) (rz_mk h ι, w) := rz_gR rfl (by decide) c
theorem g279_8 : rg Z d rx_m279 8 L (v2 :: v1 :: []) (rz_mk h ι, w) = rz_k true (rz_f Z d 199 [v1, v2] (rz_mk h ι, w)) (fun v σ' => rg Z d rx_m279 11 L (v.toList ++ []) σ') := rz_cs (pc := 8) (n := 2) (mi := 199) (S := v2 :: v1 :: []) (rest := []) rfl rfl (Nat.le_of_ble_eq_true rfl) (Nat.le_of_ble_eq_true rfl)
theorem g279_11 : rg Z d rx_m279 11 [some (.ref a), l1, l2, l3, l4, l5] S (rz_mk h ι, w) = rg Z d rx_m279 12 [some (.ref a), l1, l2, l3, l4, l5] (.ref a :: S) (rz_mk h ι, w) := rz_s1 fun _ => rfl
theorem g279_12 : rg Z d rx_m279 12 [l0, some (.int x), l2, l3, l4, l5] S (rz_mk h ι, w) = rg Z d rx_m279 13 [l0, some (.int x), l2, l3, l4, l5] (.int x :: S) (rz_mk h ι, w) := rz_s1 fun _ => rfl
theorem g279_13 (c : rz_fI h a 12 44) (hz : Z.2.1 ≤ a) : rg Z d rx_m279 13 L (.int x :: .ref a :: S) (rz_mk h ι, w) = rg Z d rx_m279 16 L S (rz_mk h (rz_up ι a 44 x), w) := rz_pI rfl c hz
theorem g279_16 : rg Z d rx_m279 16 L S (rz_mk h ι, w) = rg Z d rx_m279 17 L (.int 0 :: S) (rz_mk h ι, w) := rz_s1 fun _ => rfl
theorem g279_17 : rg Z d rx_m279 17 [l0, l1, l2, some (.int z), l4, l5] (.int x :: S) (rz_mk h ι, w) = rg Z d rx_m279 19 [l0, l1, l2, some (.int z), some (.int x), l5] S (rz_mk h ι, w) := rz_s1 fun _ => rfl
theorem g279_19 : rg Z d rx_m279 19 [l0, l1, l2, l3, some (.int x), l5] S (rz_mk h ι, w) = rg Z d rx_m279 21 [l0, l1, l2, l3, some (.int x), l5] (.int x :: S) (rz_mk h ι, w) := rz_s1 fun _ => rfl
theorem g279_21 : rg Z d rx_m279 21 [l0, l1, some (.int x), l3, l4, l5] S (rz_mk h ι, w) = rg Z d rx_m279 22 [l0, l1, some (.int x), l3, l4, l5] (.int x :: S) (rz_mk h ι, w) := rz_s1 fun _ => rfl
theorem g279_22 : rg Z d rx_m279 22 L (.int y :: .int x :: S) (rz_mk h ι, w) = if x < y then rg Z d rx_m279 25 L S (rz_mk h ι, w) else rg Z d rx_m279 87 L S (rz_mk h ι, w) := rz_if2 (pc := 22) (t := 87) (off := 65) (cc := .ge) (by decide) rfl
theorem g279_25 : rg Z d rx_m279 25 [some (.ref a), l1, l2, l3, l4, l5] S (rz_mk h ι, w) = rg Z d rx_m279 26 [some (.ref a), l1, l2, l3, l4, l5] (.ref a :: S) (rz_mk h ι, w) := rz_s1 fun _ => rfl
theorem g279_26 : rg Z d rx_m279 26 L S (rz_mk h ι, w) = rg Z d rx_m279 28 L (.int 8 :: S) (rz_mk h ι, w) := rz_s1 fun _ => rfl
theorem g279_28 (c : rz_oc h a 12) : rg Z d rx_m279 28 L (v1 :: .ref a :: []) (rz_mk h ι, w) = rz_k true (rz_f Z d 278 [.ref a, v1] (rz_mk h ι, w)) (fun v σ' => rg Z d rx_m279 31 L (v.toList ++ []) σ') := rz_cv (pc := 28) (n := 1) (mi := 278) (S := v1 :: .ref a :: []) (rest := []) rfl rfl (Nat.le_of_ble_eq_true rfl) (Nat.le_of_ble_eq_true rfl) c
theorem g279_31 : rg Z d rx_m279 31 [l0, l1, l2, l3, some (.int z), l5] (.int x :: S) (rz_mk h ι, w) = rg Z d rx_m279 33 [l0, l1, l2, l3, some (.int z), some (.int x)] S (rz_mk h ι, w) := rz_s1 fun _ => rfl
theorem g279_33 : rg Z d rx_m279 33 [some (.ref a), l1, l2, l3, l4, l5] S (rz_mk h ι, w) = rg Z d rx_m279 34 [some (.ref a), l1, l2, l3, l4, l5] (.ref a :: S) (rz_mk h ι, w) := rz_s1 fun _ => rfl
theorem g279_34 (c : rz_fR h a 12 26) : rg Z d rx_m279 34 L (.ref a :: S) (rz_mk h ι, w) = rg Z d rx_m279 37 L (rz_rv h a 26 :: S) (rz_mk h ι, w) := rz_gR rfl (by decide) c
theorem g279_37 : rg Z d rx_m279 37 [l0, l1, l2, l3, l4, some (.int x)] S (rz_mk h ι, w) = rg Z d rx_m279 39 [l0, l1, l2, l3, l4, some (.int x)] (.int x :: S) (rz_mk h ι, w) := rz_s1 fun _ => rfl
theorem g279_39 : rg Z d rx_m279 39 [some (.ref a), l1, l2, l3, l4, l5] S (rz_mk h ι, w) = rg Z d rx_m279 40 [some (.ref a), l1, l2, l3, l4, l5] (.ref a :: S) (rz_mk h ι, w) := rz_s1 fun _ => rfl
theorem g279_40 : rg Z d rx_m279 40 L S (rz_mk h ι, w) = rg Z d rx_m279 42 L (.int 8 :: S) (rz_mk h ι, w) := rz_s1 fun _ => rfl
theorem g279_42 (c : rz_oc h a 12) : rg Z d rx_m279 42 L (v1 :: .ref a :: [.int s0, .ref t1]) (rz_mk h ι, w) = rz_k true (rz_f Z d 278 [.ref a, v1] (rz_mk h ι, w)) (fun v σ' => rg Z d rx_m279 45 L (v.toList ++ [.int s0, .ref t1]) σ') := rz_cv (pc := 42) (n := 1) (mi := 278) (S := v1 :: .ref a :: [.int s0, .ref t1]) (rest := [.int s0, .ref t1]) rfl rfl (Nat.le_of_ble_eq_true rfl) (Nat.le_of_ble_eq_true rfl) c
theorem g279_45 : rg Z d rx_m279 45 L (v3 :: v2 :: v1 :: []) (rz_mk h ι, w) = rz_k true (rz_f Z d 227 [v1, v2, v3] (rz_mk h ι, w)) (fun v σ' => rg Z d rx_m279 48 L (v.toList ++ []) σ') := rz_cs (pc := 45) (n := 3) (mi := 227) (S := v3 :: v2 :: v1 :: []) (rest := []) rfl rfl (Nat.le_of_ble_eq_true rfl) (Nat.le_of_ble_eq_true rfl)
theorem g279_48 : rg Z d rx_m279 48 L (.int x :: S) (rz_mk h ι, w) = rg Z d rx_m279 49 L S (rz_mk h ι, w) := rz_s1 fun _ => rfl
theorem g279_49 : rg Z d rx_m279 49 [some (.ref a), l1, l2, l3, l4, l5] S (rz_mk h ι, w) = rg Z d rx_m279 50 [some (.ref a), l1, l2, l3, l4, l5] (.ref a :: S) (rz_mk h ι, w) := rz_s1 fun _ => rfl
theorem g279_50 : rg Z d rx_m279 50 L S (rz_mk h ι, w) = rg Z d rx_m279 52 L (.int 16 :: S) (rz_mk h ι, w) := rz_s1 fun _ => rfl
theorem g279_52 (c : rz_oc h a 12) : rg Z d rx_m279 52 L (v1 :: .ref a :: []) (rz_mk h ι, w) = rz_k true (rz_f Z d 278 [.ref a, v1] (rz_mk h ι, w)) (fun v σ' => rg Z d rx_m279 55 L (v.toList ++ []) σ') := rz_cv (pc := 52) (n := 1) (mi := 278) (S := v1 :: .ref a :: []) (rest := []) rfl rfl (Nat.le_of_ble_eq_true rfl) (Nat.le_of_ble_eq_true rfl) c
theorem g279_55 : rg Z d rx_m279 55 [l0, l1, l2, some (.int x), l4, l5] S (rz_mk h ι, w) = rg Z d rx_m279 56 [l0, l1, l2, some (.int x), l4, l5] (.int x :: S) (rz_mk h ι, w) := rz_s1 fun _ => rfl
theorem g279_56 : rg Z d rx_m279 56 L (.int y :: .int x :: S) (rz_mk h ι, w) = if x < y then rg Z d rx_m279 59 L S (rz_mk h ι, w) else rg Z d rx_m279 74 L S (rz_mk h ι, w) := rz_if2 (pc := 56) (t := 74) (off := 18) (cc := .ge) (by decide) rfl
theorem g279_59 : rg Z d rx_m279 59 [some (.ref a), l1, l2, l3, l4, l5] S (rz_mk h ι, w) = rg Z d rx_m279 60 [some (.ref a), l1, l2, l3, l4, l5] (.ref a :: S) (rz_mk h ι, w) := rz_s1 fun _ => rfl
theorem g279_60 : rg Z d rx_m279 60 [some (.ref a), l1, l2, l3, l4, l5] S (rz_mk h ι, w) = rg Z d rx_m279 61 [some (.ref a), l1, l2, l3, l4, l5] (.ref a :: S) (rz_mk h ι, w) := rz_s1 fun _ => rfl
theorem g279_61 (c : rz_fR h a 12 26) : rg Z d rx_m279 61 L (.ref a :: S) (rz_mk h ι, w) = rg Z d rx_m279 64 L (rz_rv h a 26 :: S) (rz_mk h ι, w) := rz_gR rfl (by decide) c
theorem g279_64 : rg Z d rx_m279 64 [some (.ref a), l1, l2, l3, l4, l5] S (rz_mk h ι, w) = rg Z d rx_m279 65 [some (.ref a), l1, l2, l3, l4, l5] (.ref a :: S) (rz_mk h ι, w) := rz_s1 fun _ => rfl
theorem g279_65 : rg Z d rx_m279 65 L S (rz_mk h ι, w) = rg Z d rx_m279 67 L (.int 8 :: S) (rz_mk h ι, w) := rz_s1 fun _ => rfl
theorem g279_67 (c : rz_oc h a 12) : rg Z d rx_m279 67 L (v1 :: .ref a :: [.ref t0, .ref t1]) (rz_mk h ι, w) = rz_k true (rz_f Z d 278 [.ref a, v1] (rz_mk h ι, w)) (fun v σ' => rg Z d rx_m279 70 L (v.toList ++ [.ref t0, .ref t1]) σ') := rz_cv (pc := 67) (n := 1) (mi := 278) (S := v1 :: .ref a :: [.ref t0, .ref t1]) (rest := [.ref t0, .ref t1]) rfl rfl (Nat.le_of_ble_eq_true rfl) (Nat.le_of_ble_eq_true rfl) c
theorem g279_70 (c : rz_oc h a 12) : rg Z d rx_m279 70 L (v2 :: v1 :: .ref a :: []) (rz_mk h ι, w) = rz_k true (rz_f Z d 228 [.ref a, v1, v2] (rz_mk h ι, w)) (fun v σ' => rg Z d rx_m279 73 L (v.toList ++ []) σ') := rz_cv (pc := 70) (n := 2) (mi := 228) (S := v2 :: v1 :: .ref a :: []) (rest := []) rfl rfl (Nat.le_of_ble_eq_true rfl) (Nat.le_of_ble_eq_true rfl) c
theorem g279_73 : rg Z d rx_m279 73 L (.int x :: S) (rz_mk h ι, w) = rg Z d rx_m279 74 L S (rz_mk h ι, w) := rz_s1 fun _ => rfl
theorem g279_74 : rg Z d rx_m279 74 [some (.ref a), l1, l2, l3, l4, l5] S (rz_mk h ι, w) = rg Z d rx_m279 75 [some (.ref a), l1, l2, l3, l4, l5] (.ref a :: S) (rz_mk h ι, w) := rz_s1 fun _ => rfl
theorem g279_75 (c : rz_fR h a 12 26) : rg Z d rx_m279 75 L (.ref a :: S) (rz_mk h ι, w) = rg Z d rx_m279 78 L (rz_rv h a 26 :: S) (rz_mk h ι, w) := rz_gR rfl (by decide) c
theorem g279_78 : rg Z d rx_m279 78 L (v1 :: []) (rz_mk h ι, w) = rz_k true (rz_f Z d 229 [v1] (rz_mk h ι, w)) (fun v σ' => rg Z d rx_m279 81 L (v.toList ++ []) σ') := rz_cs (pc := 78) (n := 1) (mi := 229) (S := v1 :: []) (rest := []) rfl rfl (Nat.le_of_ble_eq_true rfl) (Nat.le_of_ble_eq_true rfl)
theorem g279_81 : rg Z d rx_m279 81 [l0, l1, l2, some (.int z), some (.int x), l5] S (rz_mk h ι, w) = rg Z d rx_m279 84 [l0, l1, l2, some (.int z), some (.int (x + 1)), l5] S (rz_mk h ι, w) := rz_s1 fun _ => rfl
theorem g279_84 : rg Z d rx_m279 84 L S (rz_mk h ι, w) = rg Z d rx_m279 19 L S (rz_mk h ι, w) := rz_s1 fun _ => rfl
theorem g279_87 : rg Z d rx_m279 87 L [] (rz_mk h ι, w) = some (.inl none, (rz_mk h ι, w)) := rz_r1 fun _ => rfl
theorem e279 : rz_f Z (d + 1) 279 [.ref t0, .int s1, .int s2, .int s3] σ = rg Z d rx_m279 0 [some (.ref t0), some (.int s1), some (.int s2), some (.int s3), none, none] [] σ := rz_f_eq rfl (Nat.le_of_ble_eq_true rfl)
theorem g280_0 : rg Z d rx_m280 0 [some (.int x), l1] S (rz_mk h ι, w) = rg Z d rx_m280 1 [some (.int x), l1] (.int x :: S) (rz_mk h ι, w) := rz_s1 fun _ => rfl
theorem g280_1 : rg Z d rx_m280 1 L S (rz_mk h ι, w) = rg Z d rx_m280 2 L (.int 1 :: S) (rz_mk h ι, w) := rz_s1 fun _ => rfl
theorem g280_2 : rg Z d rx_m280 2 L S (rz_mk h ι, w) = rg Z d rx_m280 4 L (.int 96 :: S) (rz_mk h ι, w) := rz_s1 fun _ => rfl
theorem g280_4 : rg Z d rx_m280 4 L (v3 :: v2 :: v1 :: []) (rz_mk h ι, w) = rz_k true (rz_f Z d 175 [v1, v2, v3] (rz_mk h ι, w)) (fun v σ' => rg Z d rx_m280 7 L (v.toList ++ []) σ') := rz_cs (pc := 4) (n := 3) (mi := 175) (S := v3 :: v2 :: v1 :: []) (rest := []) rfl rfl (Nat.le_of_ble_eq_true rfl) (Nat.le_of_ble_eq_true rfl)
theorem g280_7 : rg Z d rx_m280 7 L (.int x :: S) (rz_mk h ι, w) = if x = 0 then rg Z d rx_m280 24 L S (rz_mk h ι, w) else rg Z d rx_m280 10 L S (rz_mk h ι, w) := rz_if1 (pc := 7) (t := 24) (off := 17) (cc := .eq) (by decide) rfl
theorem g280_10 : rg Z d rx_m280 10 [l0, some (.int x)] S (rz_mk h ι, w) = rg Z d rx_m280 11 [l0, some (.int x)] (.int x :: S) (rz_mk h ι, w) := rz_s1 fun _ => rfl
theorem g280_11 : rg Z d rx_m280 11 L S (rz_mk h ι, w) = rg Z d rx_m280 12 L (.int 0 :: S) (rz_mk h ι, w) := rz_s1 fun _ => rfl
theorem g280_12 : rg Z d rx_m280 12 L S (rz_mk h ι, w) = rg Z d rx_m280 14 L (.int 16 :: S) (rz_mk h ι, w) := rz_s1 fun _ => rfl
theorem g280_14 : rg Z d rx_m280 14 L (v3 :: v2 :: v1 :: []) (rz_mk h ι, w) = rz_k true (rz_f Z d 175 [v1, v2, v3] (rz_mk h ι, w)) (fun v σ' => rg Z d rx_m280 17 L (v.toList ++ []) σ') := rz_cs (pc := 14) (n := 3) (mi := 175) (S := v3 :: v2 :: v1 :: []) (rest := []) rfl rfl (Nat.le_of_ble_eq_true rfl) (Nat.le_of_ble_eq_true rfl)
theorem g280_17 : rg Z d rx_m280 17 L (.int x :: S) (rz_mk h ι, w) = if x = 0 then rg Z d rx_m280 24 L S (rz_mk h ι, w) else rg Z d rx_m280 20 L S (rz_mk h ι, w) := rz_if1 (pc := 17) (t := 24) (off := 7) (cc := .eq) (by decide) rfl
theorem g280_20 : rg Z d rx_m280 20 L S (rz_mk h ι, w) = rg Z d rx_m280 21 L (.int 1 :: S) (rz_mk h ι, w) := rz_s1 fun _ => rfl
theorem g280_21 : rg Z d rx_m280 21 L S (rz_mk h ι, w) = rg Z d rx_m280 25 L S (rz_mk h ι, w) := rz_s1 fun _ => rfl
theorem g280_24 : rg Z d rx_m280 24 L S (rz_mk h ι, w) = rg Z d rx_m280 25 L (.int 0 :: S) (rz_mk h ι, w) := rz_s1 fun _ => rfl
theorem g280_25 (c : narrow .boolean (.int x) = .int x) : rg Z d rx_m280 25 L [.int x] (rz_mk h ι, w) = some (.inl (some (.int x)), (rz_mk h ι, w)) := rz_reti rfl rfl c
theorem e280 : rz_f Z (d + 1) 280 [.int s0, .int s1] σ = rg Z d rx_m280 0 [some (.int s0), some (.int s1)] [] σ := rz_f_eq rfl (Nat.le_of_ble_eq_true rfl)
theorem g281_0 : rg Z d rx_m281 0 [some (.ref a), l1, l2, l3, l4] S (rz_mk h ι, w) = rg Z d rx_m281 1 [some (.ref a), l1, l2, l3, l4] (.ref a :: S) (rz_mk h ι, w) := rz_s1 fun _ => rfl
theorem g281_1 : rg Z d rx_m281 1 L S (rz_mk h ι, w) = rg Z d rx_m281 2 L (.int 0 :: S) (rz_mk h ι, w) := rz_s1 fun _ => rfl
theorem g281_2 (c : rz_fI h a 12 0) (hz : Z.2.1 ≤ a) : rg Z d rx_m281 2 L (.int x :: .ref a :: S) (rz_mk h ι, w) = rg Z d rx_m281 5 L S (rz_mk h (rz_up ι a 0 x), w) := rz_pI rfl c hz
theorem g281_5 : rg Z d rx_m281 5 [some (.ref a), l1, l2, l3, l4] S (rz_mk h ι, w) = rg Z d rx_m281 6 [some (.ref a), l1, l2, l3, l4] (.ref a :: S) (rz_mk h ι, w) := rz_s1 fun _ => rfl
theorem g281_6 : rg Z d rx_m281 6 [l0, l1, some (.int x), l3, l4] S (rz_mk h ι, w) = rg Z d rx_m281 7 [l0, l1, some (.int x), l3, l4] (.int x :: S) (rz_mk h ι, w) := rz_s1 fun _ => rfl
theorem g281_7 : rg Z d rx_m281 7 [l0, l1, l2, some (.int x), l4] S (rz_mk h ι, w) = rg Z d rx_m281 8 [l0, l1, l2, some (.int x), l4] (.int x :: S) (rz_mk h ι, w) := rz_s1 fun _ => rfl
theorem g281_8 : rg Z d rx_m281 8 L (v2 :: v1 :: [.ref t0]) (rz_mk h ι, w) = rz_k true (rz_f Z d 280 [v1, v2] (rz_mk h ι, w)) (fun v σ' => rg Z d rx_m281 11 L (v.toList ++ [.ref t0]) σ') := rz_cs (pc := 8) (n := 2) (mi := 280) (S := v2 :: v1 :: [.ref t0]) (rest := [.ref t0]) rfl rfl (Nat.le_of_ble_eq_true rfl) (Nat.le_of_ble_eq_true rfl)
theorem g281_11 : rg Z d rx_m281 11 L (.int x :: S) (rz_mk h ι, w) = if x = 0 then rg Z d rx_m281 24 L S (rz_mk h ι, w) else rg Z d rx_m281 14 L S (rz_mk h ι, w) := rz_if1 (pc := 11) (t := 24) (off := 13) (cc := .eq) (by decide) rfl
theorem g281_14 : rg Z d rx_m281 14 [l0, l1, l2, l3, some (.int x)] S (rz_mk h ι, w) = rg Z d rx_m281 16 [l0, l1, l2, l3, some (.int x)] (.int x :: S) (rz_mk h ι, w) := rz_s1 fun _ => rfl
theorem g281_16 : rg Z d rx_m281 16 L S (rz_mk h ι, w) = rg Z d rx_m281 17 L (.int 0 :: S) (rz_mk h ι, w) := rz_s1 fun _ => rfl
theorem g281_17 : rg Z d rx_m281 17 L S (rz_mk h ι, w) = rg Z d rx_m281 18 L (.int 3 :: S) (rz_mk h ι, w) := rz_s1 fun _ => rfl
theorem g281_18 : rg Z d rx_m281 18 L (v3 :: v2 :: v1 :: [.ref t0]) (rz_mk h ι, w) = rz_k true (rz_f Z d 175 [v1, v2, v3] (rz_mk h ι, w)) (fun v σ' => rg Z d rx_m281 21 L (v.toList ++ [.ref t0]) σ') := rz_cs (pc := 18) (n := 3) (mi := 175) (S := v3 :: v2 :: v1 :: [.ref t0]) (rest := [.ref t0]) rfl rfl (Nat.le_of_ble_eq_true rfl) (Nat.le_of_ble_eq_true rfl)
theorem g281_21 : rg Z d rx_m281 21 L (.int x :: S) (rz_mk h ι, w) = if x = 0 then rg Z d rx_m281 24 L S (rz_mk h ι, w) else rg Z d rx_m281 28 L S (rz_mk h ι, w) := rz_if1 (pc := 21) (t := 28) (off := 7) (cc := .ne) (by decide) rfl
theorem g281_24 : rg Z d rx_m281 24 L S (rz_mk h ι, w) = rg Z d rx_m281 25 L (.int 1 :: S) (rz_mk h ι, w) := rz_s1 fun _ => rfl
theorem g281_25 : rg Z d rx_m281 25 L S (rz_mk h ι, w) = rg Z d rx_m281 29 L S (rz_mk h ι, w) := rz_s1 fun _ => rfl
theorem g281_28 : rg Z d rx_m281 28 L S (rz_mk h ι, w) = rg Z d rx_m281 29 L (.int 0 :: S) (rz_mk h ι, w) := rz_s1 fun _ => rfl
theorem g281_29 : rg Z d rx_m281 29 L S (rz_mk h ι, w) = rg Z d rx_m281 30 L (.int 1 :: S) (rz_mk h ι, w) := rz_s1 fun _ => rfl
theorem g281_30 : rg Z d rx_m281 30 L S (rz_mk h ι, w) = rg Z d rx_m281 31 L (.int 1 :: S) (rz_mk h ι, w) := rz_s1 fun _ => rfl
theorem g281_31 (c : rz_oc h a 12) : rg Z d rx_m281 31 L (v3 :: v2 :: v1 :: .ref a :: []) (rz_mk h ι, w) = rz_k true (rz_f Z d 174 [.ref a, v1, v2, v3] (rz_mk h ι, w)) (fun v σ' => rg Z d rx_m281 34 L (v.toList ++ []) σ') := rz_cv (pc := 31) (n := 3) (mi := 174) (S := v3 :: v2 :: v1 :: .ref a :: []) (rest := []) rfl rfl (Nat.le_of_ble_eq_true rfl) (Nat.le_of_ble_eq_true rfl) c
theorem g281_34 : rg Z d rx_m281 34 L (.int x :: S) (rz_mk h ι, w) = if x = 0 then rg Z d rx_m281 39 L S (rz_mk h ι, w) else rg Z d rx_m281 37 L S (rz_mk h ι, w) := rz_if1 (pc := 34) (t := 39) (off := 5) (cc := .eq) (by decide) rfl
theorem g281_37 : rg Z d rx_m281 37 L S (rz_mk h ι, w) = rg Z d rx_m281 38 L (.int 0 :: S) (rz_mk h ι, w) := rz_s1 fun _ => rfl
theorem g281_38 : rg Z d rx_m281 38 L [.int x] (rz_mk h ι, w) = some (.inl (some (.int x)), (rz_mk h ι, w)) := rz_reti rfl rfl rfl
theorem g281_39 : rg Z d rx_m281 39 [some (.ref a), l1, l2, l3, l4] S (rz_mk h ι, w) = rg Z d rx_m281 40 [some (.ref a), l1, l2, l3, l4] (.ref a :: S) (rz_mk h ι, w) := rz_s1 fun _ => rfl
theorem g281_40 : rg Z d rx_m281 40 [l0, some (.int x), l2, l3, l4] S (rz_mk h ι, w) = rg Z d rx_m281 41 [l0, some (.int x), l2, l3, l4] (.int x :: S) (rz_mk h ι, w) := rz_s1 fun _ => rfl
theorem g281_41 : rg Z d rx_m281 41 [l0, l1, some (.int x), l3, l4] S (rz_mk h ι, w) = rg Z d rx_m281 42 [l0, l1, some (.int x), l3, l4] (.int x :: S) (rz_mk h ι, w) := rz_s1 fun _ => rfl
theorem g281_42 : rg Z d rx_m281 42 [l0, l1, l2, some (.int x), l4] S (rz_mk h ι, w) = rg Z d rx_m281 43 [l0, l1, l2, some (.int x), l4] (.int x :: S) (rz_mk h ι, w) := rz_s1 fun _ => rfl
theorem g281_43 (c : rz_oc h a 12) : rg Z d rx_m281 43 L (v3 :: v2 :: v1 :: .ref a :: []) (rz_mk h ι, w) = rz_k true (rz_f Z d 279 [.ref a, v1, v2, v3] (rz_mk h ι, w)) (fun v σ' => rg Z d rx_m281 46 L (v.toList ++ []) σ') := rz_cv (pc := 43) (n := 3) (mi := 279) (S := v3 :: v2 :: v1 :: .ref a :: []) (rest := []) rfl rfl (Nat.le_of_ble_eq_true rfl) (Nat.le_of_ble_eq_true rfl) c
theorem g281_46 : rg Z d rx_m281 46 [l0, l1, l2, l3, some (.int x)] S (rz_mk h ι, w) = rg Z d rx_m281 48 [l0, l1, l2, l3, some (.int x)] (.int x :: S) (rz_mk h ι, w) := rz_s1 fun _ => rfl
theorem g281_48 : rg Z d rx_m281 48 L (.int x :: S) (rz_mk h ι, w) = if x = 0 then rg Z d rx_m281 51 L S (rz_mk h ι, w) else rg Z d rx_m281 61 L S (rz_mk h ι, w) := rz_if1 (pc := 48) (t := 61) (off := 13) (cc := .ne) (by decide) rfl
theorem g281_51 : rg Z d rx_m281 51 [some (.ref a), l1, l2, l3, l4] S (rz_mk h ι, w) = rg Z d rx_m281 52 [some (.ref a), l1, l2, l3, l4] (.ref a :: S) (rz_mk h ι, w) := rz_s1 fun _ => rfl
theorem g281_52 (c : rz_fR h a 12 26) : rg Z d rx_m281 52 L (.ref a :: S) (rz_mk h ι, w) = rg Z d rx_m281 55 L (rz_rv h a 26 :: S) (rz_mk h ι, w) := rz_gR rfl (by decide) c
theorem g281_55 : rg Z d rx_m281 55 L S (rz_mk h ι, w) = rg Z d rx_m281 57 L (.int 58 :: S) (rz_mk h ι, w) := rz_s1 fun _ => rfl
theorem g281_57 (c : rz_ar h a 0) (hi : rz_ix x (rz_ln h a)) : rg Z d rx_m281 57 L (.int x :: .ref a :: S) (rz_mk h ι, w) = rg Z d rx_m281 58 L (.int (ι a x.toNatClampNeg) :: S) (rz_mk h ι, w) := rz_iald rfl c hi
theorem g281_58 : rg Z d rx_m281 58 L S (rz_mk h ι, w) = rg Z d rx_m281 100 L S (rz_mk h ι, w) := rz_s1 fun _ => rfl
theorem g281_61 : rg Z d rx_m281 61 [l0, l1, l2, l3, some (.int x)] S (rz_mk h ι, w) = rg Z d rx_m281 63 [l0, l1, l2, l3, some (.int x)] (.int x :: S) (rz_mk h ι, w) := rz_s1 fun _ => rfl
theorem g281_63 : rg Z d rx_m281 63 L S (rz_mk h ι, w) = rg Z d rx_m281 64 L (.int 1 :: S) (rz_mk h ι, w) := rz_s1 fun _ => rfl
theorem g281_64 : rg Z d rx_m281 64 L (.int y :: .int x :: S) (rz_mk h ι, w) = if x = y then rg Z d rx_m281 67 L S (rz_mk h ι, w) else rg Z d rx_m281 77 L S (rz_mk h ι, w) := rz_if2 (pc := 64) (t := 77) (off := 13) (cc := .ne) (by decide) rfl
theorem g281_67 : rg Z d rx_m281 67 [some (.ref a), l1, l2, l3, l4] S (rz_mk h ι, w) = rg Z d rx_m281 68 [some (.ref a), l1, l2, l3, l4] (.ref a :: S) (rz_mk h ι, w) := rz_s1 fun _ => rfl
theorem g281_68 (c : rz_fR h a 12 26) : rg Z d rx_m281 68 L (.ref a :: S) (rz_mk h ι, w) = rg Z d rx_m281 71 L (rz_rv h a 26 :: S) (rz_mk h ι, w) := rz_gR rfl (by decide) c
theorem g281_71 : rg Z d rx_m281 71 L S (rz_mk h ι, w) = rg Z d rx_m281 73 L (.int 56 :: S) (rz_mk h ι, w) := rz_s1 fun _ => rfl
theorem g281_73 (c : rz_ar h a 0) (hi : rz_ix x (rz_ln h a)) : rg Z d rx_m281 73 L (.int x :: .ref a :: S) (rz_mk h ι, w) = rg Z d rx_m281 74 L (.int (ι a x.toNatClampNeg) :: S) (rz_mk h ι, w) := rz_iald rfl c hi
theorem g281_74 : rg Z d rx_m281 74 L S (rz_mk h ι, w) = rg Z d rx_m281 100 L S (rz_mk h ι, w) := rz_s1 fun _ => rfl
theorem g281_77 : rg Z d rx_m281 77 [l0, l1, l2, l3, some (.int x)] S (rz_mk h ι, w) = rg Z d rx_m281 79 [l0, l1, l2, l3, some (.int x)] (.int x :: S) (rz_mk h ι, w) := rz_s1 fun _ => rfl
theorem g281_79 : rg Z d rx_m281 79 L S (rz_mk h ι, w) = rg Z d rx_m281 80 L (.int 2 :: S) (rz_mk h ι, w) := rz_s1 fun _ => rfl
theorem g281_80 : rg Z d rx_m281 80 L (.int y :: .int x :: S) (rz_mk h ι, w) = if x = y then rg Z d rx_m281 83 L S (rz_mk h ι, w) else rg Z d rx_m281 93 L S (rz_mk h ι, w) := rz_if2 (pc := 80) (t := 93) (off := 13) (cc := .ne) (by decide) rfl
theorem g281_83 : rg Z d rx_m281 83 [some (.ref a), l1, l2, l3, l4] S (rz_mk h ι, w) = rg Z d rx_m281 84 [some (.ref a), l1, l2, l3, l4] (.ref a :: S) (rz_mk h ι, w) := rz_s1 fun _ => rfl
theorem g281_84 (c : rz_fR h a 12 26) : rg Z d rx_m281 84 L (.ref a :: S) (rz_mk h ι, w) = rg Z d rx_m281 87 L (rz_rv h a 26 :: S) (rz_mk h ι, w) := rz_gR rfl (by decide) c
theorem g281_87 : rg Z d rx_m281 87 L S (rz_mk h ι, w) = rg Z d rx_m281 89 L (.int 60 :: S) (rz_mk h ι, w) := rz_s1 fun _ => rfl
theorem g281_89 (c : rz_ar h a 0) (hi : rz_ix x (rz_ln h a)) : rg Z d rx_m281 89 L (.int x :: .ref a :: S) (rz_mk h ι, w) = rg Z d rx_m281 90 L (.int (ι a x.toNatClampNeg) :: S) (rz_mk h ι, w) := rz_iald rfl c hi
theorem g281_90 : rg Z d rx_m281 90 L S (rz_mk h ι, w) = rg Z d rx_m281 100 L S (rz_mk h ι, w) := rz_s1 fun _ => rfl
theorem g281_93 : rg Z d rx_m281 93 [some (.ref a), l1, l2, l3, l4] S (rz_mk h ι, w) = rg Z d rx_m281 94 [some (.ref a), l1, l2, l3, l4] (.ref a :: S) (rz_mk h ι, w) := rz_s1 fun _ => rfl
theorem g281_94 (c : rz_fR h a 12 26) : rg Z d rx_m281 94 L (.ref a :: S) (rz_mk h ι, w) = rg Z d rx_m281 97 L (rz_rv h a 26 :: S) (rz_mk h ι, w) := rz_gR rfl (by decide) c
theorem g281_97 : rg Z d rx_m281 97 L S (rz_mk h ι, w) = rg Z d rx_m281 99 L (.int 57 :: S) (rz_mk h ι, w) := rz_s1 fun _ => rfl
theorem g281_99 (c : rz_ar h a 0) (hi : rz_ix x (rz_ln h a)) : rg Z d rx_m281 99 L (.int x :: .ref a :: S) (rz_mk h ι, w) = rg Z d rx_m281 100 L (.int (ι a x.toNatClampNeg) :: S) (rz_mk h ι, w) := rz_iald rfl c hi
theorem g281_100 : rg Z d rx_m281 100 L [.int x] (rz_mk h ι, w) = some (.inl (some (.int x)), (rz_mk h ι, w)) := rz_reti rfl rfl rfl
theorem e281 : rz_f Z (d + 1) 281 [.ref t0, .int s1, .int s2, .int s3, .int s4] σ = rg Z d rx_m281 0 [some (.ref t0), some (.int s1), some (.int s2), some (.int s3), some (.int s4)] [] σ := rz_f_eq rfl (Nat.le_of_ble_eq_true rfl)
theorem g282_0 : rg Z d rx_m282 0 [some (.ref a), l1, l2, l3, l4, l5, l6, l7, l8, l9, l10] S (rz_mk h ι, w) = rg Z d rx_m282 1 [some (.ref a), l1, l2, l3, l4, l5, l6, l7, l8, l9, l10] (.ref a :: S) (rz_mk h ι, w) := rz_s1 fun _ => rfl
theorem g282_1 : rg Z d rx_m282 1 L S (rz_mk h ι, w) = rg Z d rx_m282 2 L (.int 0 :: S) (rz_mk h ι, w) := rz_s1 fun _ => rfl
theorem g282_2 (c : rz_fI h a 12 0) (hz : Z.2.1 ≤ a) : rg Z d rx_m282 2 L (.int x :: .ref a :: S) (rz_mk h ι, w) = rg Z d rx_m282 5 L S (rz_mk h (rz_up ι a 0 x), w) := rz_pI rfl c hz
theorem g282_5 : rg Z d rx_m282 5 [some (.ref a), l1, l2, l3, l4, l5, l6, l7, l8, l9, l10] S (rz_mk h ι, w) = rg Z d rx_m282 6 [some (.ref a), l1, l2, l3, l4, l5, l6, l7, l8, l9, l10] (.ref a :: S) (rz_mk h ι, w) := rz_s1 fun _ => rfl
theorem g282_6 : rg Z d rx_m282 6 [l0, l1, some (.int x), l3, l4, l5, l6, l7, l8, l9, l10] S (rz_mk h ι, w) = rg Z d rx_m282 7 [l0, l1, some (.int x), l3, l4, l5, l6, l7, l8, l9, l10] (.int x :: S) (rz_mk h ι, w) := rz_s1 fun _ => rfl
theorem g282_7 : rg Z d rx_m282 7 L S (rz_mk h ι, w) = rg Z d rx_m282 8 L (.int 1 :: S) (rz_mk h ι, w) := rz_s1 fun _ => rfl
theorem g282_8 : rg Z d rx_m282 8 L S (rz_mk h ι, w) = rg Z d rx_m282 10 L (.int 20 :: S) (rz_mk h ι, w) := rz_s1 fun _ => rfl
theorem g282_10 : rg Z d rx_m282 10 L (v3 :: v2 :: v1 :: [.ref t0]) (rz_mk h ι, w) = rz_k true (rz_f Z d 175 [v1, v2, v3] (rz_mk h ι, w)) (fun v σ' => rg Z d rx_m282 13 L (v.toList ++ [.ref t0]) σ') := rz_cs (pc := 10) (n := 3) (mi := 175) (S := v3 :: v2 :: v1 :: [.ref t0]) (rest := [.ref t0]) rfl rfl (Nat.le_of_ble_eq_true rfl) (Nat.le_of_ble_eq_true rfl)
theorem g282_13 : rg Z d rx_m282 13 L (.int x :: S) (rz_mk h ι, w) = if x = 0 then rg Z d rx_m282 44 L S (rz_mk h ι, w) else rg Z d rx_m282 16 L S (rz_mk h ι, w) := rz_if1 (pc := 13) (t := 44) (off := 31) (cc := .eq) (by decide) rfl
theorem g282_16 : rg Z d rx_m282 16 [l0, l1, l2, some (.int x), l4, l5, l6, l7, l8, l9, l10] S (rz_mk h ι, w) = rg Z d rx_m282 17 [l0, l1, l2, some (.int x), l4, l5, l6, l7, l8, l9, l10] (.int x :: S) (rz_mk h ι, w) := rz_s1 fun _ => rfl
theorem g282_17 : rg Z d rx_m282 17 [l0, l1, l2, l3, some (.int x), l5, l6, l7, l8, l9, l10] S (rz_mk h ι, w) = rg Z d rx_m282 19 [l0, l1, l2, l3, some (.int x), l5, l6, l7, l8, l9, l10] (.int x :: S) (rz_mk h ι, w) := rz_s1 fun _ => rfl
theorem g282_19 : rg Z d rx_m282 19 L (v2 :: v1 :: [.ref t0]) (rz_mk h ι, w) = rz_k true (rz_f Z d 280 [v1, v2] (rz_mk h ι, w)) (fun v σ' => rg Z d rx_m282 22 L (v.toList ++ [.ref t0]) σ') := rz_cs (pc := 19) (n := 2) (mi := 280) (S := v2 :: v1 :: [.ref t0]) (rest := [.ref t0]) rfl rfl (Nat.le_of_ble_eq_true rfl) (Nat.le_of_ble_eq_true rfl)
theorem g282_22 : rg Z d rx_m282 22 L (.int x :: S) (rz_mk h ι, w) = if x = 0 then rg Z d rx_m282 44 L S (rz_mk h ι, w) else rg Z d rx_m282 25 L S (rz_mk h ι, w) := rz_if1 (pc := 22) (t := 44) (off := 22) (cc := .eq) (by decide) rfl
theorem g282_25 : rg Z d rx_m282 25 [l0, l1, l2, l3, l4, some (.int x), l6, l7, l8, l9, l10] S (rz_mk h ι, w) = rg Z d rx_m282 27 [l0, l1, l2, l3, l4, some (.int x), l6, l7, l8, l9, l10] (.int x :: S) (rz_mk h ι, w) := rz_s1 fun _ => rfl
theorem g282_27 : rg Z d rx_m282 27 L S (rz_mk h ι, w) = rg Z d rx_m282 28 L (.int 0 :: S) (rz_mk h ι, w) := rz_s1 fun _ => rfl
theorem g282_28 : rg Z d rx_m282 28 L S (rz_mk h ι, w) = rg Z d rx_m282 29 L (.int 2 :: S) (rz_mk h ι, w) := rz_s1 fun _ => rfl
theorem g282_29 : rg Z d rx_m282 29 L (v3 :: v2 :: v1 :: [.ref t0]) (rz_mk h ι, w) = rz_k true (rz_f Z d 175 [v1, v2, v3] (rz_mk h ι, w)) (fun v σ' => rg Z d rx_m282 32 L (v.toList ++ [.ref t0]) σ') := rz_cs (pc := 29) (n := 3) (mi := 175) (S := v3 :: v2 :: v1 :: [.ref t0]) (rest := [.ref t0]) rfl rfl (Nat.le_of_ble_eq_true rfl) (Nat.le_of_ble_eq_true rfl)
theorem g282_32 : rg Z d rx_m282 32 L (.int x :: S) (rz_mk h ι, w) = if x = 0 then rg Z d rx_m282 44 L S (rz_mk h ι, w) else rg Z d rx_m282 35 L S (rz_mk h ι, w) := rz_if1 (pc := 32) (t := 44) (off := 12) (cc := .eq) (by decide) rfl
theorem g282_35 : rg Z d rx_m282 35 [some (.ref a), l1, l2, l3, l4, l5, l6, l7, l8, l9, l10] S (rz_mk h ι, w) = rg Z d rx_m282 36 [some (.ref a), l1, l2, l3, l4, l5, l6, l7, l8, l9, l10] (.ref a :: S) (rz_mk h ι, w) := rz_s1 fun _ => rfl
theorem g282_36 : rg Z d rx_m282 36 [l0, l1, l2, l3, l4, l5, some (.int x), l7, l8, l9, l10] S (rz_mk h ι, w) = rg Z d rx_m282 38 [l0, l1, l2, l3, l4, l5, some (.int x), l7, l8, l9, l10] (.int x :: S) (rz_mk h ι, w) := rz_s1 fun _ => rfl
theorem g282_38 (c : rz_oc h a 12) : rg Z d rx_m282 38 L (v1 :: .ref a :: [.ref t0]) (rz_mk h ι, w) = rz_k true (rz_f Z d 236 [.ref a, v1] (rz_mk h ι, w)) (fun v σ' => rg Z d rx_m282 41 L (v.toList ++ [.ref t0]) σ') := rz_cv (pc := 38) (n := 1) (mi := 236) (S := v1 :: .ref a :: [.ref t0]) (rest := [.ref t0]) rfl rfl (Nat.le_of_ble_eq_true rfl) (Nat.le_of_ble_eq_true rfl) c
theorem g282_41 : rg Z d rx_m282 41 L (.int x :: S) (rz_mk h ι, w) = if x = 0 then rg Z d rx_m282 44 L S (rz_mk h ι, w) else rg Z d rx_m282 48 L S (rz_mk h ι, w) := rz_if1 (pc := 41) (t := 48) (off := 7) (cc := .ne) (by decide) rfl
theorem g282_44 : rg Z d rx_m282 44 L S (rz_mk h ι, w) = rg Z d rx_m282 45 L (.int 1 :: S) (rz_mk h ι, w) := rz_s1 fun _ => rfl
theorem g282_45 : rg Z d rx_m282 45 L S (rz_mk h ι, w) = rg Z d rx_m282 49 L S (rz_mk h ι, w) := rz_s1 fun _ => rfl
theorem g282_48 : rg Z d rx_m282 48 L S (rz_mk h ι, w) = rg Z d rx_m282 49 L (.int 0 :: S) (rz_mk h ι, w) := rz_s1 fun _ => rfl
theorem g282_49 : rg Z d rx_m282 49 L S (rz_mk h ι, w) = rg Z d rx_m282 50 L (.int 1 :: S) (rz_mk h ι, w) := rz_s1 fun _ => rfl
theorem g282_50 : rg Z d rx_m282 50 L S (rz_mk h ι, w) = rg Z d rx_m282 51 L (.int 1 :: S) (rz_mk h ι, w) := rz_s1 fun _ => rfl
theorem g282_51 (c : rz_oc h a 12) : rg Z d rx_m282 51 L (v3 :: v2 :: v1 :: .ref a :: []) (rz_mk h ι, w) = rz_k true (rz_f Z d 174 [.ref a, v1, v2, v3] (rz_mk h ι, w)) (fun v σ' => rg Z d rx_m282 54 L (v.toList ++ []) σ') := rz_cv (pc := 51) (n := 3) (mi := 174) (S := v3 :: v2 :: v1 :: .ref a :: []) (rest := []) rfl rfl (Nat.le_of_ble_eq_true rfl) (Nat.le_of_ble_eq_true rfl) c
theorem g282_54 : rg Z d rx_m282 54 L (.int x :: S) (rz_mk h ι, w) = if x = 0 then rg Z d rx_m282 59 L S (rz_mk h ι, w) else rg Z d rx_m282 57 L S (rz_mk h ι, w) := rz_if1 (pc := 54) (t := 59) (off := 5) (cc := .eq) (by decide) rfl
theorem g282_57 : rg Z d rx_m282 57 L S (rz_mk h ι, w) = rg Z d rx_m282 58 L (.int 0 :: S) (rz_mk h ι, w) := rz_s1 fun _ => rfl
theorem g282_58 : rg Z d rx_m282 58 L [.int x] (rz_mk h ι, w) = some (.inl (some (.int x)), (rz_mk h ι, w)) := rz_reti rfl rfl rfl
theorem g282_59 : rg Z d rx_m282 59 L S (rz_mk h ι, w) = rg Z d rx_m282 60 L (.int (-1) :: S) (rz_mk h ι, w) := rz_s1 fun _ => rfl
theorem g282_60 : rg Z d rx_m282 60 [l0, l1, l2, l3, l4, l5, some (.int z), l7, l8, l9, l10] (.int x :: S) (rz_mk h ι, w) = rg Z d rx_m282 62 [l0, l1, l2, l3, l4, l5, some (.int z), some (.int x), l8, l9, l10] S (rz_mk h ι, w) := rz_s1 fun _ => rfl
theorem g282_62 : rg Z d rx_m282 62 L S (rz_mk h ι, w) = rg Z d rx_m282 63 L (.int 0 :: S) (rz_mk h ι, w) := rz_s1 fun _ => rfl
theorem g282_63 : rg Z d rx_m282 63 [l0, l1, l2, l3, l4, l5, l6, some (.int z), l8, l9, l10] (.int x :: S) (rz_mk h ι, w) = rg Z d rx_m282 65 [l0, l1, l2, l3, l4, l5, l6, some (.int z), some (.int x), l9, l10] S (rz_mk h ι, w) := rz_s1 fun _ => rfl
theorem g282_65 : rg Z d rx_m282 65 L S (rz_mk h ι, w) = rg Z d rx_m282 66 L (.int 0 :: S) (rz_mk h ι, w) := rz_s1 fun _ => rfl
theorem g282_66 : rg Z d rx_m282 66 [l0, l1, l2, l3, l4, l5, l6, l7, some (.int z), l9, l10] (.int x :: S) (rz_mk h ι, w) = rg Z d rx_m282 68 [l0, l1, l2, l3, l4, l5, l6, l7, some (.int z), some (.int x), l10] S (rz_mk h ι, w) := rz_s1 fun _ => rfl
theorem g282_68 : rg Z d rx_m282 68 L S (rz_mk h ι, w) = rg Z d rx_m282 69 L (.int 0 :: S) (rz_mk h ι, w) := rz_s1 fun _ => rfl
theorem g282_69 : rg Z d rx_m282 69 [l0, l1, l2, l3, l4, l5, l6, l7, l8, some (.int z), l10] (.int x :: S) (rz_mk h ι, w) = rg Z d rx_m282 71 [l0, l1, l2, l3, l4, l5, l6, l7, l8, some (.int z), some (.int x)] S (rz_mk h ι, w) := rz_s1 fun _ => rfl
theorem g282_71 : rg Z d rx_m282 71 [l0, l1, l2, l3, l4, l5, l6, l7, l8, l9, some (.int x)] S (rz_mk h ι, w) = rg Z d rx_m282 73 [l0, l1, l2, l3, l4, l5, l6, l7, l8, l9, some (.int x)] (.int x :: S) (rz_mk h ι, w) := rz_s1 fun _ => rfl
theorem g282_73 : rg Z d rx_m282 73 [l0, l1, some (.int x), l3, l4, l5, l6, l7, l8, l9, l10] S (rz_mk h ι, w) = rg Z d rx_m282 74 [l0, l1, some (.int x), l3, l4, l5, l6, l7, l8, l9, l10] (.int x :: S) (rz_mk h ι, w) := rz_s1 fun _ => rfl
theorem g282_74 : rg Z d rx_m282 74 L (.int y :: .int x :: S) (rz_mk h ι, w) = if x < y then rg Z d rx_m282 77 L S (rz_mk h ι, w) else rg Z d rx_m282 160 L S (rz_mk h ι, w) := rz_if2 (pc := 74) (t := 160) (off := 86) (cc := .ge) (by decide) rfl
theorem g282_77 : rg Z d rx_m282 77 [some (.ref a), l1, l2, l3, l4, l5, l6, l7, l8, l9, l10] S (rz_mk h ι, w) = rg Z d rx_m282 78 [some (.ref a), l1, l2, l3, l4, l5, l6, l7, l8, l9, l10] (.ref a :: S) (rz_mk h ι, w) := rz_s1 fun _ => rfl
theorem g282_78 : rg Z d rx_m282 78 [l0, some (.int x), l2, l3, l4, l5, l6, l7, l8, l9, l10] S (rz_mk h ι, w) = rg Z d rx_m282 79 [l0, some (.int x), l2, l3, l4, l5, l6, l7, l8, l9, l10] (.int x :: S) (rz_mk h ι, w) := rz_s1 fun _ => rfl
theorem g282_79 : rg Z d rx_m282 79 [l0, l1, l2, l3, l4, l5, l6, l7, l8, l9, some (.int x)] S (rz_mk h ι, w) = rg Z d rx_m282 81 [l0, l1, l2, l3, l4, l5, l6, l7, l8, l9, some (.int x)] (.int x :: S) (rz_mk h ι, w) := rz_s1 fun _ => rfl
theorem g282_81 : rg Z d rx_m282 81 L (.int y :: .int x :: S) (rz_mk h ι, w) = rg Z d rx_m282 82 L (.int (x + y) :: S) (rz_mk h ι, w) := rz_s1 fun _ => rfl
theorem g282_82 : rg Z d rx_m282 82 [l0, l1, l2, some (.int x), l4, l5, l6, l7, l8, l9, l10] S (rz_mk h ι, w) = rg Z d rx_m282 83 [l0, l1, l2, some (.int x), l4, l5, l6, l7, l8, l9, l10] (.int x :: S) (rz_mk h ι, w) := rz_s1 fun _ => rfl
theorem g282_83 : rg Z d rx_m282 83 [l0, l1, l2, l3, some (.int x), l5, l6, l7, l8, l9, l10] S (rz_mk h ι, w) = rg Z d rx_m282 85 [l0, l1, l2, l3, some (.int x), l5, l6, l7, l8, l9, l10] (.int x :: S) (rz_mk h ι, w) := rz_s1 fun _ => rfl
theorem g282_85 (c : rz_oc h a 12) : rg Z d rx_m282 85 L (v3 :: v2 :: v1 :: .ref a :: []) (rz_mk h ι, w) = rz_k true (rz_f Z d 279 [.ref a, v1, v2, v3] (rz_mk h ι, w)) (fun v σ' => rg Z d rx_m282 88 L (v.toList ++ []) σ') := rz_cv (pc := 85) (n := 3) (mi := 279) (S := v3 :: v2 :: v1 :: .ref a :: []) (rest := []) rfl rfl (Nat.le_of_ble_eq_true rfl) (Nat.le_of_ble_eq_true rfl) c
theorem g282_88 : rg Z d rx_m282 88 [l0, l1, l2, l3, l4, l5, l6, some (.int x), l8, l9, l10] S (rz_mk h ι, w) = rg Z d rx_m282 90 [l0, l1, l2, l3, l4, l5, l6, some (.int x), l8, l9, l10] (.int x :: S) (rz_mk h ι, w) := rz_s1 fun _ => rfl
theorem g282_90 : rg Z d rx_m282 90 L S (rz_mk h ι, w) = rg Z d rx_m282 91 L (.int (-1) :: S) (rz_mk h ι, w) := rz_s1 fun _ => rfl
theorem g282_91 : rg Z d rx_m282 91 L (.int y :: .int x :: S) (rz_mk h ι, w) = if x = y then rg Z d rx_m282 94 L S (rz_mk h ι, w) else rg Z d rx_m282 104 L S (rz_mk h ι, w) := rz_if2 (pc := 91) (t := 104) (off := 13) (cc := .ne) (by decide) rfl
theorem g282_94 : rg Z d rx_m282 94 [some (.ref a), l1, l2, l3, l4, l5, l6, l7, l8, l9, l10] S (rz_mk h ι, w) = rg Z d rx_m282 95 [some (.ref a), l1, l2, l3, l4, l5, l6, l7, l8, l9, l10] (.ref a :: S) (rz_mk h ι, w) := rz_s1 fun _ => rfl
theorem g282_95 (c : rz_fR h a 12 26) : rg Z d rx_m282 95 L (.ref a :: S) (rz_mk h ι, w) = rg Z d rx_m282 98 L (rz_rv h a 26 :: S) (rz_mk h ι, w) := rz_gR rfl (by decide) c
theorem g282_98 : rg Z d rx_m282 98 L S (rz_mk h ι, w) = rg Z d rx_m282 100 L (.int 60 :: S) (rz_mk h ι, w) := rz_s1 fun _ => rfl
theorem g282_100 (c : rz_ar h a 0) (hi : rz_ix x (rz_ln h a)) : rg Z d rx_m282 100 L (.int x :: .ref a :: S) (rz_mk h ι, w) = rg Z d rx_m282 101 L (.int (ι a x.toNatClampNeg) :: S) (rz_mk h ι, w) := rz_iald rfl c hi
theorem g282_101 : rg Z d rx_m282 101 L S (rz_mk h ι, w) = rg Z d rx_m282 116 L S (rz_mk h ι, w) := rz_s1 fun _ => rfl
theorem g282_104 : rg Z d rx_m282 104 [l0, l1, l2, l3, l4, l5, l6, some (.int x), l8, l9, l10] S (rz_mk h ι, w) = rg Z d rx_m282 106 [l0, l1, l2, l3, l4, l5, l6, some (.int x), l8, l9, l10] (.int x :: S) (rz_mk h ι, w) := rz_s1 fun _ => rfl
theorem g282_106 : rg Z d rx_m282 106 [some (.ref a), l1, l2, l3, l4, l5, l6, l7, l8, l9, l10] S (rz_mk h ι, w) = rg Z d rx_m282 107 [some (.ref a), l1, l2, l3, l4, l5, l6, l7, l8, l9, l10] (.ref a :: S) (rz_mk h ι, w) := rz_s1 fun _ => rfl
theorem g282_107 (c : rz_fR h a 12 26) : rg Z d rx_m282 107 L (.ref a :: S) (rz_mk h ι, w) = rg Z d rx_m282 110 L (rz_rv h a 26 :: S) (rz_mk h ι, w) := rz_gR rfl (by decide) c
theorem g282_110 : rg Z d rx_m282 110 L S (rz_mk h ι, w) = rg Z d rx_m282 112 L (.int 60 :: S) (rz_mk h ι, w) := rz_s1 fun _ => rfl
theorem g282_112 (c : rz_ar h a 0) (hi : rz_ix x (rz_ln h a)) : rg Z d rx_m282 112 L (.int x :: .ref a :: S) (rz_mk h ι, w) = rg Z d rx_m282 113 L (.int (ι a x.toNatClampNeg) :: S) (rz_mk h ι, w) := rz_iald rfl c hi
theorem g282_113 : rg Z d rx_m282 113 L (v2 :: v1 :: []) (rz_mk h ι, w) = rz_k true (rz_f Z d 176 [v1, v2] (rz_mk h ι, w)) (fun v σ' => rg Z d rx_m282 116 L (v.toList ++ []) σ') := rz_cs (pc := 113) (n := 2) (mi := 176) (S := v2 :: v1 :: []) (rest := []) rfl rfl (Nat.le_of_ble_eq_true rfl) (Nat.le_of_ble_eq_true rfl)
theorem g282_116 : rg Z d rx_m282 116 [l0, l1, l2, l3, l4, l5, some (.int z), l7, l8, l9, l10] (.int x :: S) (rz_mk h ι, w) = rg Z d rx_m282 118 [l0, l1, l2, l3, l4, l5, some (.int z), some (.int x), l8, l9, l10] S (rz_mk h ι, w) := rz_s1 fun _ => rfl
theorem g282_118 : rg Z d rx_m282 118 [l0, l1, l2, l3, l4, l5, l6, l7, some (.int x), l9, l10] S (rz_mk h ι, w) = rg Z d rx_m282 120 [l0, l1, l2, l3, l4, l5, l6, l7, some (.int x), l9, l10] (.int x :: S) (rz_mk h ι, w) := rz_s1 fun _ => rfl
theorem g282_120 : rg Z d rx_m282 120 [some (.ref a), l1, l2, l3, l4, l5, l6, l7, l8, l9, l10] S (rz_mk h ι, w) = rg Z d rx_m282 121 [some (.ref a), l1, l2, l3, l4, l5, l6, l7, l8, l9, l10] (.ref a :: S) (rz_mk h ι, w) := rz_s1 fun _ => rfl
theorem g282_121 (c : rz_fR h a 12 26) : rg Z d rx_m282 121 L (.ref a :: S) (rz_mk h ι, w) = rg Z d rx_m282 124 L (rz_rv h a 26 :: S) (rz_mk h ι, w) := rz_gR rfl (by decide) c
theorem g282_124 : rg Z d rx_m282 124 L S (rz_mk h ι, w) = rg Z d rx_m282 126 L (.int 60 :: S) (rz_mk h ι, w) := rz_s1 fun _ => rfl
theorem g282_126 (c : rz_ar h a 0) (hi : rz_ix x (rz_ln h a)) : rg Z d rx_m282 126 L (.int x :: .ref a :: S) (rz_mk h ι, w) = rg Z d rx_m282 127 L (.int (ι a x.toNatClampNeg) :: S) (rz_mk h ι, w) := rz_iald rfl c hi
theorem g282_127 : rg Z d rx_m282 127 L (v2 :: v1 :: []) (rz_mk h ι, w) = rz_k true (rz_f Z d 177 [v1, v2] (rz_mk h ι, w)) (fun v σ' => rg Z d rx_m282 130 L (v.toList ++ []) σ') := rz_cs (pc := 127) (n := 2) (mi := 177) (S := v2 :: v1 :: []) (rest := []) rfl rfl (Nat.le_of_ble_eq_true rfl) (Nat.le_of_ble_eq_true rfl)
theorem g282_130 : rg Z d rx_m282 130 [l0, l1, l2, l3, l4, l5, l6, some (.int z), l8, l9, l10] (.int x :: S) (rz_mk h ι, w) = rg Z d rx_m282 132 [l0, l1, l2, l3, l4, l5, l6, some (.int z), some (.int x), l9, l10] S (rz_mk h ι, w) := rz_s1 fun _ => rfl
theorem g282_132 : rg Z d rx_m282 132 [l0, l1, l2, l3, l4, l5, l6, l7, l8, some (.int x), l10] S (rz_mk h ι, w) = rg Z d rx_m282 134 [l0, l1, l2, l3, l4, l5, l6, l7, l8, some (.int x), l10] (.int x :: S) (rz_mk h ι, w) := rz_s1 fun _ => rfl
theorem g282_134 : rg Z d rx_m282 134 [some (.ref a), l1, l2, l3, l4, l5, l6, l7, l8, l9, l10] S (rz_mk h ι, w) = rg Z d rx_m282 135 [some (.ref a), l1, l2, l3, l4, l5, l6, l7, l8, l9, l10] (.ref a :: S) (rz_mk h ι, w) := rz_s1 fun _ => rfl
theorem g282_135 (c : rz_fR h a 12 26) : rg Z d rx_m282 135 L (.ref a :: S) (rz_mk h ι, w) = rg Z d rx_m282 138 L (rz_rv h a 26 :: S) (rz_mk h ι, w) := rz_gR rfl (by decide) c
theorem g282_138 : rg Z d rx_m282 138 [l0, l1, l2, l3, l4, l5, some (.int x), l7, l8, l9, l10] S (rz_mk h ι, w) = rg Z d rx_m282 140 [l0, l1, l2, l3, l4, l5, some (.int x), l7, l8, l9, l10] (.int x :: S) (rz_mk h ι, w) := rz_s1 fun _ => rfl
theorem g282_140 : rg Z d rx_m282 140 L (v2 :: v1 :: [.int s0]) (rz_mk h ι, w) = rz_k true (rz_f Z d 222 [v1, v2] (rz_mk h ι, w)) (fun v σ' => rg Z d rx_m282 143 L (v.toList ++ [.int s0]) σ') := rz_cs (pc := 140) (n := 2) (mi := 222) (S := v2 :: v1 :: [.int s0]) (rest := [.int s0]) rfl rfl (Nat.le_of_ble_eq_true rfl) (Nat.le_of_ble_eq_true rfl)
theorem g282_143 : rg Z d rx_m282 143 L (.int x :: S) (rz_mk h ι, w) = if x = 0 then rg Z d rx_m282 150 L S (rz_mk h ι, w) else rg Z d rx_m282 146 L S (rz_mk h ι, w) := rz_if1 (pc := 143) (t := 150) (off := 7) (cc := .eq) (by decide) rfl
theorem g282_146 : rg Z d rx_m282 146 L S (rz_mk h ι, w) = rg Z d rx_m282 147 L (.int 1 :: S) (rz_mk h ι, w) := rz_s1 fun _ => rfl
theorem g282_147 : rg Z d rx_m282 147 L S (rz_mk h ι, w) = rg Z d rx_m282 151 L S (rz_mk h ι, w) := rz_s1 fun _ => rfl
theorem g282_150 : rg Z d rx_m282 150 L S (rz_mk h ι, w) = rg Z d rx_m282 151 L (.int 0 :: S) (rz_mk h ι, w) := rz_s1 fun _ => rfl
theorem g282_151 : rg Z d rx_m282 151 L (.int y :: .int x :: S) (rz_mk h ι, w) = rg Z d rx_m282 152 L (.int (x + y) :: S) (rz_mk h ι, w) := rz_s1 fun _ => rfl
theorem g282_152 : rg Z d rx_m282 152 [l0, l1, l2, l3, l4, l5, l6, l7, some (.int z), l9, l10] (.int x :: S) (rz_mk h ι, w) = rg Z d rx_m282 154 [l0, l1, l2, l3, l4, l5, l6, l7, some (.int z), some (.int x), l10] S (rz_mk h ι, w) := rz_s1 fun _ => rfl
theorem g282_154 : rg Z d rx_m282 154 [l0, l1, l2, l3, l4, l5, l6, l7, l8, some (.int z), some (.int x)] S (rz_mk h ι, w) = rg Z d rx_m282 157 [l0, l1, l2, l3, l4, l5, l6, l7, l8, some (.int z), some (.int (x + 1))] S (rz_mk h ι, w) := rz_s1 fun _ => rfl
theorem g282_157 : rg Z d rx_m282 157 L S (rz_mk h ι, w) = rg Z d rx_m282 71 L S (rz_mk h ι, w) := rz_s1 fun _ => rfl
theorem g282_160 : rg Z d rx_m282 160 [l0, l1, l2, l3, l4, some (.int x), l6, l7, l8, l9, l10] S (rz_mk h ι, w) = rg Z d rx_m282 162 [l0, l1, l2, l3, l4, some (.int x), l6, l7, l8, l9, l10] (.int x :: S) (rz_mk h ι, w) := rz_s1 fun _ => rfl
theorem g282_162 : rg Z d rx_m282 162 L (.int x :: S) (rz_mk h ι, w) = if x = 0 then rg Z d rx_m282 165 L S (rz_mk h ι, w) else rg Z d rx_m282 170 L S (rz_mk h ι, w) := rz_if1 (pc := 162) (t := 170) (off := 8) (cc := .ne) (by decide) rfl
theorem g282_165 : rg Z d rx_m282 165 [l0, l1, l2, l3, l4, l5, l6, some (.int x), l8, l9, l10] S (rz_mk h ι, w) = rg Z d rx_m282 167 [l0, l1, l2, l3, l4, l5, l6, some (.int x), l8, l9, l10] (.int x :: S) (rz_mk h ι, w) := rz_s1 fun _ => rfl
theorem g282_167 : rg Z d rx_m282 167 L S (rz_mk h ι, w) = rg Z d rx_m282 183 L S (rz_mk h ι, w) := rz_s1 fun _ => rfl
theorem g282_170 : rg Z d rx_m282 170 [l0, l1, l2, l3, l4, some (.int x), l6, l7, l8, l9, l10] S (rz_mk h ι, w) = rg Z d rx_m282 172 [l0, l1, l2, l3, l4, some (.int x), l6, l7, l8, l9, l10] (.int x :: S) (rz_mk h ι, w) := rz_s1 fun _ => rfl
theorem g282_172 : rg Z d rx_m282 172 L S (rz_mk h ι, w) = rg Z d rx_m282 173 L (.int 1 :: S) (rz_mk h ι, w) := rz_s1 fun _ => rfl
theorem g282_173 : rg Z d rx_m282 173 L (.int y :: .int x :: S) (rz_mk h ι, w) = if x = y then rg Z d rx_m282 176 L S (rz_mk h ι, w) else rg Z d rx_m282 181 L S (rz_mk h ι, w) := rz_if2 (pc := 173) (t := 181) (off := 8) (cc := .ne) (by decide) rfl
theorem g282_176 : rg Z d rx_m282 176 [l0, l1, l2, l3, l4, l5, l6, l7, some (.int x), l9, l10] S (rz_mk h ι, w) = rg Z d rx_m282 178 [l0, l1, l2, l3, l4, l5, l6, l7, some (.int x), l9, l10] (.int x :: S) (rz_mk h ι, w) := rz_s1 fun _ => rfl
theorem g282_178 : rg Z d rx_m282 178 L S (rz_mk h ι, w) = rg Z d rx_m282 183 L S (rz_mk h ι, w) := rz_s1 fun _ => rfl
theorem g282_181 : rg Z d rx_m282 181 [l0, l1, l2, l3, l4, l5, l6, l7, l8, some (.int x), l10] S (rz_mk h ι, w) = rg Z d rx_m282 183 [l0, l1, l2, l3, l4, l5, l6, l7, l8, some (.int x), l10] (.int x :: S) (rz_mk h ι, w) := rz_s1 fun _ => rfl
theorem g282_183 : rg Z d rx_m282 183 L [.int x] (rz_mk h ι, w) = some (.inl (some (.int x)), (rz_mk h ι, w)) := rz_reti rfl rfl rfl
theorem e282 : rz_f Z (d + 1) 282 [.ref t0, .int s1, .int s2, .int s3, .int s4, .int s5, .int s6] σ = rg Z d rx_m282 0 [some (.ref t0), some (.int s1), some (.int s2), some (.int s3), some (.int s4), some (.int s5), some (.int s6), none, none, none, none] [] σ := rz_f_eq rfl (Nat.le_of_ble_eq_true rfl)
theorem g283_0 : rg Z d rx_m283 0 [l0, l1, l2, some (.int x)] S (rz_mk h ι, w) = rg Z d rx_m283 1 [l0, l1, l2, some (.int x)] (.int x :: S) (rz_mk h ι, w) := rz_s1 fun _ => rfl
theorem g283_1 : rg Z d rx_m283 1 L (.int x :: S) (rz_mk h ι, w) = if x = 0 then rg Z d rx_m283 4 L S (rz_mk h ι, w) else rg Z d rx_m283 11 L S (rz_mk h ι, w) := rz_if1 (pc := 1) (t := 11) (off := 10) (cc := .ne) (by decide) rfl
theorem g283_4 : rg Z d rx_m283 4 [l0, some (.ref a), l2, l3] S (rz_mk h ι, w) = rg Z d rx_m283 5 [l0, some (.ref a), l2, l3] (.ref a :: S) (rz_mk h ι, w) := rz_s1 fun _ => rfl
theorem g283_5 : rg Z d rx_m283 5 [some (.ref a), l1, l2, l3] S (rz_mk h ι, w) = rg Z d rx_m283 6 [some (.ref a), l1, l2, l3] (.ref a :: S) (rz_mk h ι, w) := rz_s1 fun _ => rfl
theorem g283_6 (c : rz_fI h a 12 33) : rg Z d rx_m283 6 L (.ref a :: S) (rz_mk h ι, w) = rg Z d rx_m283 9 L (.int (ι a 33) :: S) (rz_mk h ι, w) := rz_gI rfl (by decide) c
theorem g283_9 : rg Z d rx_m283 9 [l0, l1, some (.int x), l3] S (rz_mk h ι, w) = rg Z d rx_m283 10 [l0, l1, some (.int x), l3] (.int x :: S) (rz_mk h ι, w) := rz_s1 fun _ => rfl
theorem g283_10 (c : rz_ar h a 0) (hi : rz_ix x (rz_ln h a)) (hz : Z.2.1 ≤ a) : rg Z d rx_m283 10 L (.int y :: .int x :: .ref a :: S) (rz_mk h ι, w) = rg Z d rx_m283 11 L S (rz_mk h (rz_up ι a x.toNatClampNeg y), w) := rz_iast rfl c hi hz
theorem g283_11 : rg Z d rx_m283 11 [some (.ref a), l1, l2, l3] S (rz_mk h ι, w) = rg Z d rx_m283 12 [some (.ref a), l1, l2, l3] (.ref a :: S) (rz_mk h ι, w) := rz_s1 fun _ => rfl
theorem g283_12 : rg Z d rx_m283 12 L (.ref a :: S) (rz_mk h ι, w) = rg Z d rx_m283 13 L (.ref a :: .ref a :: S) (rz_mk h ι, w) := rz_s1 fun _ => rfl
theorem g283_13 (c : rz_fI h a 12 33) : rg Z d rx_m283 13 L (.ref a :: S) (rz_mk h ι, w) = rg Z d rx_m283 16 L (.int (ι a 33) :: S) (rz_mk h ι, w) := rz_gI rfl (by decide) c
theorem g283_16 : rg Z d rx_m283 16 L S (rz_mk h ι, w) = rg Z d rx_m283 17 L (.int 1 :: S) (rz_mk h ι, w) := rz_s1 fun _ => rfl
theorem g283_17 : rg Z d rx_m283 17 L (.int y :: .int x :: S) (rz_mk h ι, w) = rg Z d rx_m283 18 L (.int (x + y) :: S) (rz_mk h ι, w) := rz_s1 fun _ => rfl
theorem g283_18 (c : rz_fI h a 12 33) (hz : Z.2.1 ≤ a) : rg Z d rx_m283 18 L (.int x :: .ref a :: S) (rz_mk h ι, w) = rg Z d rx_m283 21 L S (rz_mk h (rz_up ι a 33 x), w) := rz_pI rfl c hz
theorem g283_21 : rg Z d rx_m283 21 [l0, some (.ref a), l2, l3] S (rz_mk h ι, w) = rg Z d rx_m283 22 [l0, some (.ref a), l2, l3] (.ref a :: S) (rz_mk h ι, w) := rz_s1 fun _ => rfl
theorem g283_22 : rg Z d rx_m283 22 [some (.ref a), l1, l2, l3] S (rz_mk h ι, w) = rg Z d rx_m283 23 [some (.ref a), l1, l2, l3] (.ref a :: S) (rz_mk h ι, w) := rz_s1 fun _ => rfl
theorem g283_23 (c : rz_fI h a 12 33) : rg Z d rx_m283 23 L (.ref a :: S) (rz_mk h ι, w) = rg Z d rx_m283 26 L (.int (ι a 33) :: S) (rz_mk h ι, w) := rz_gI rfl (by decide) c
theorem g283_26 : rg Z d rx_m283 26 L S (rz_mk h ι, w) = rg Z d rx_m283 27 L (.int 1 :: S) (rz_mk h ι, w) := rz_s1 fun _ => rfl
theorem g283_27 : rg Z d rx_m283 27 L (.int y :: .int x :: S) (rz_mk h ι, w) = rg Z d rx_m283 28 L (.int (x - y) :: S) (rz_mk h ι, w) := rz_s1 fun _ => rfl
theorem g283_28 (c : rz_ar h a 0) (hi : rz_ix x (rz_ln h a)) : rg Z d rx_m283 28 L (.int x :: .ref a :: S) (rz_mk h ι, w) = rg Z d rx_m283 29 L (.int (ι a x.toNatClampNeg) :: S) (rz_mk h ι, w) := rz_iald rfl c hi
theorem g283_29 : rg Z d rx_m283 29 L [.int x] (rz_mk h ι, w) = some (.inl (some (.int x)), (rz_mk h ι, w)) := rz_reti rfl rfl rfl
theorem e283 : rz_f Z (d + 1) 283 [.ref t0, .ref t1, .int s2, .int s3] σ = rg Z d rx_m283 0 [some (.ref t0), some (.ref t1), some (.int s2), some (.int s3)] [] σ := rz_f_eq rfl (Nat.le_of_ble_eq_true rfl)
theorem g284_0 : rg Z d rx_m284 0 [some (.ref a), l1, l2, l3, l4] S (rz_mk h ι, w) = rg Z d rx_m284 1 [some (.ref a), l1, l2, l3, l4] (.ref a :: S) (rz_mk h ι, w) := rz_s1 fun _ => rfl
theorem g284_1 : rg Z d rx_m284 1 L S (rz_mk h ι, w) = rg Z d rx_m284 2 L (.int 0 :: S) (rz_mk h ι, w) := rz_s1 fun _ => rfl
theorem g284_2 (c : rz_fI h a 12 33) (hz : Z.2.1 ≤ a) : rg Z d rx_m284 2 L (.int x :: .ref a :: S) (rz_mk h ι, w) = rg Z d rx_m284 5 L S (rz_mk h (rz_up ι a 33 x), w) := rz_pI rfl c hz
theorem g284_5 : rg Z d rx_m284 5 [some (.ref a), l1, l2, l3, l4] S (rz_mk h ι, w) = rg Z d rx_m284 6 [some (.ref a), l1, l2, l3, l4] (.ref a :: S) (rz_mk h ι, w) := rz_s1 fun _ => rfl
theorem g284_6 : rg Z d rx_m284 6 [some (.ref a), l1, l2, l3, l4] S (rz_mk h ι, w) = rg Z d rx_m284 7 [some (.ref a), l1, l2, l3, l4] (.ref a :: S) (rz_mk h ι, w) := rz_s1 fun _ => rfl
theorem g284_7 : rg Z d rx_m284 7 [l0, some (.ref a), l2, l3, l4] S (rz_mk h ι, w) = rg Z d rx_m284 8 [l0, some (.ref a), l2, l3, l4] (.ref a :: S) (rz_mk h ι, w) := rz_s1 fun _ => rfl
theorem g284_8 : rg Z d rx_m284 8 [some (.ref a), l1, l2, l3, l4] S (rz_mk h ι, w) = rg Z d rx_m284 9 [some (.ref a), l1, l2, l3, l4] (.ref a :: S) (rz_mk h ι, w) := rz_s1 fun _ => rfl
theorem g284_9 (c : rz_fI h a 12 30) : rg Z d rx_m284 9 L (.ref a :: S) (rz_mk h ι, w) = rg Z d rx_m284 12 L (.int (ι a 30) :: S) (rz_mk h ι, w) := rz_gI rfl (by decide) c
theorem g284_12 : rg Z d rx_m284 12 [l0, l1, some (.int x), l3, l4] S (rz_mk h ι, w) = rg Z d rx_m284 13 [l0, l1, some (.int x), l3, l4] (.int x :: S) (rz_mk h ι, w) := rz_s1 fun _ => rfl
theorem g284_13 (c : rz_oc h a 12) : rg Z d rx_m284 13 L (v3 :: v2 :: v1 :: .ref a :: [.ref t0]) (rz_mk h ι, w) = rz_k true (rz_f Z d 283 [.ref a, v1, v2, v3] (rz_mk h ι, w)) (fun v σ' => rg Z d rx_m284 16 L (v.toList ++ [.ref t0]) σ') := rz_cv (pc := 13) (n := 3) (mi := 283) (S := v3 :: v2 :: v1 :: .ref a :: [.ref t0]) (rest := [.ref t0]) rfl rfl (Nat.le_of_ble_eq_true rfl) (Nat.le_of_ble_eq_true rfl) c
theorem g284_16 (c : rz_fI h a 12 30) (hz : Z.2.1 ≤ a) : rg Z d rx_m284 16 L (.int x :: .ref a :: S) (rz_mk h ι, w) = rg Z d rx_m284 19 L S (rz_mk h (rz_up ι a 30 x), w) := rz_pI rfl c hz
theorem g284_19 : rg Z d rx_m284 19 L S (rz_mk h ι, w) = rg Z d rx_m284 20 L (.int 0 :: S) (rz_mk h ι, w) := rz_s1 fun _ => rfl
theorem g284_20 : rg Z d rx_m284 20 [l0, l1, some (.int z), l3, l4] (.int x :: S) (rz_mk h ι, w) = rg Z d rx_m284 21 [l0, l1, some (.int z), some (.int x), l4] S (rz_mk h ι, w) := rz_s1 fun _ => rfl
theorem g284_21 : rg Z d rx_m284 21 [l0, l1, l2, some (.int x), l4] S (rz_mk h ι, w) = rg Z d rx_m284 22 [l0, l1, l2, some (.int x), l4] (.int x :: S) (rz_mk h ι, w) := rz_s1 fun _ => rfl
theorem g284_22 : rg Z d rx_m284 22 L S (rz_mk h ι, w) = rg Z d rx_m284 24 L (.int 62 :: S) (rz_mk h ι, w) := rz_s1 fun _ => rfl
theorem g284_24 : rg Z d rx_m284 24 L (.int y :: .int x :: S) (rz_mk h ι, w) = if x < y then rg Z d rx_m284 27 L S (rz_mk h ι, w) else rg Z d rx_m284 51 L S (rz_mk h ι, w) := rz_if2 (pc := 24) (t := 51) (off := 27) (cc := .ge) (by decide) rfl
theorem g284_27 : rg Z d rx_m284 27 [some (.ref a), l1, l2, l3, l4] S (rz_mk h ι, w) = rg Z d rx_m284 28 [some (.ref a), l1, l2, l3, l4] (.ref a :: S) (rz_mk h ι, w) := rz_s1 fun _ => rfl
theorem g284_28 (c : rz_fR h a 12 25) : rg Z d rx_m284 28 L (.ref a :: S) (rz_mk h ι, w) = rg Z d rx_m284 31 L (rz_rv h a 25 :: S) (rz_mk h ι, w) := rz_gR rfl (by decide) c
theorem g284_31 : rg Z d rx_m284 31 [l0, l1, l2, some (.int x), l4] S (rz_mk h ι, w) = rg Z d rx_m284 32 [l0, l1, l2, some (.int x), l4] (.int x :: S) (rz_mk h ι, w) := rz_s1 fun _ => rfl
theorem g284_32 : rg Z d rx_m284 32 [some (.ref a), l1, l2, l3, l4] S (rz_mk h ι, w) = rg Z d rx_m284 33 [some (.ref a), l1, l2, l3, l4] (.ref a :: S) (rz_mk h ι, w) := rz_s1 fun _ => rfl
theorem g284_33 : rg Z d rx_m284 33 [l0, some (.ref a), l2, l3, l4] S (rz_mk h ι, w) = rg Z d rx_m284 34 [l0, some (.ref a), l2, l3, l4] (.ref a :: S) (rz_mk h ι, w) := rz_s1 fun _ => rfl
theorem g284_34 : rg Z d rx_m284 34 [some (.ref a), l1, l2, l3, l4] S (rz_mk h ι, w) = rg Z d rx_m284 35 [some (.ref a), l1, l2, l3, l4] (.ref a :: S) (rz_mk h ι, w) := rz_s1 fun _ => rfl
theorem g284_35 (c : rz_fR h a 12 25) : rg Z d rx_m284 35 L (.ref a :: S) (rz_mk h ι, w) = rg Z d rx_m284 38 L (rz_rv h a 25 :: S) (rz_mk h ι, w) := rz_gR rfl (by decide) c
theorem g284_38 : rg Z d rx_m284 38 [l0, l1, l2, some (.int x), l4] S (rz_mk h ι, w) = rg Z d rx_m284 39 [l0, l1, l2, some (.int x), l4] (.int x :: S) (rz_mk h ι, w) := rz_s1 fun _ => rfl
theorem g284_39 (c : rz_ar h a 0) (hi : rz_ix x (rz_ln h a)) : rg Z d rx_m284 39 L (.int x :: .ref a :: S) (rz_mk h ι, w) = rg Z d rx_m284 40 L (.int (ι a x.toNatClampNeg) :: S) (rz_mk h ι, w) := rz_iald rfl c hi
theorem g284_40 : rg Z d rx_m284 40 [l0, l1, some (.int x), l3, l4] S (rz_mk h ι, w) = rg Z d rx_m284 41 [l0, l1, some (.int x), l3, l4] (.int x :: S) (rz_mk h ι, w) := rz_s1 fun _ => rfl
theorem g284_41 (c : rz_oc h a 12) : rg Z d rx_m284 41 L (v3 :: v2 :: v1 :: .ref a :: [.int s0, .ref t1]) (rz_mk h ι, w) = rz_k true (rz_f Z d 283 [.ref a, v1, v2, v3] (rz_mk h ι, w)) (fun v σ' => rg Z d rx_m284 44 L (v.toList ++ [.int s0, .ref t1]) σ') := rz_cv (pc := 41) (n := 3) (mi := 283) (S := v3 :: v2 :: v1 :: .ref a :: [.int s0, .ref t1]) (rest := [.int s0, .ref t1]) rfl rfl (Nat.le_of_ble_eq_true rfl) (Nat.le_of_ble_eq_true rfl) c
theorem g284_44 (c : rz_ar h a 0) (hi : rz_ix x (rz_ln h a)) (hz : Z.2.1 ≤ a) : rg Z d rx_m284 44 L (.int y :: .int x :: .ref a :: S) (rz_mk h ι, w) = rg Z d rx_m284 45 L S (rz_mk h (rz_up ι a x.toNatClampNeg y), w) := rz_iast rfl c hi hz
theorem g284_45 : rg Z d rx_m284 45 [l0, l1, some (.int z), some (.int x), l4] S (rz_mk h ι, w) = rg Z d rx_m284 48 [l0, l1, some (.int z), some (.int (x + 1)), l4] S (rz_mk h ι, w) := rz_s1 fun _ => rfl
theorem g284_48 : rg Z d rx_m284 48 L S (rz_mk h ι, w) = rg Z d rx_m284 21 L S (rz_mk h ι, w) := rz_s1 fun _ => rfl
theorem g284_51 : rg Z d rx_m284 51 L S (rz_mk h ι, w) = rg Z d rx_m284 52 L (.int 0 :: S) (rz_mk h ι, w) := rz_s1 fun _ => rfl
theorem g284_52 : rg Z d rx_m284 52 [l0, l1, some (.int z), l3, l4] (.int x :: S) (rz_mk h ι, w) = rg Z d rx_m284 53 [l0, l1, some (.int z), some (.int x), l4] S (rz_mk h ι, w) := rz_s1 fun _ => rfl
theorem g284_53 : rg Z d rx_m284 53 [l0, l1, l2, some (.int x), l4] S (rz_mk h ι, w) = rg Z d rx_m284 54 [l0, l1, l2, some (.int x), l4] (.int x :: S) (rz_mk h ι, w) := rz_s1 fun _ => rfl
theorem g284_54 : rg Z d rx_m284 54 L S (rz_mk h ι, w) = rg Z d rx_m284 56 L (.int 16 :: S) (rz_mk h ι, w) := rz_s1 fun _ => rfl
theorem g284_56 : rg Z d rx_m284 56 L (.int y :: .int x :: S) (rz_mk h ι, w) = if x < y then rg Z d rx_m284 59 L S (rz_mk h ι, w) else rg Z d rx_m284 105 L S (rz_mk h ι, w) := rz_if2 (pc := 56) (t := 105) (off := 49) (cc := .ge) (by decide) rfl
theorem g284_59 : rg Z d rx_m284 59 L S (rz_mk h ι, w) = rg Z d rx_m284 60 L (.int 0 :: S) (rz_mk h ι, w) := rz_s1 fun _ => rfl
theorem g284_60 : rg Z d rx_m284 60 [l0, l1, l2, some (.int z), l4] (.int x :: S) (rz_mk h ι, w) = rg Z d rx_m284 62 [l0, l1, l2, some (.int z), some (.int x)] S (rz_mk h ι, w) := rz_s1 fun _ => rfl
theorem g284_62 : rg Z d rx_m284 62 [l0, l1, l2, l3, some (.int x)] S (rz_mk h ι, w) = rg Z d rx_m284 64 [l0, l1, l2, l3, some (.int x)] (.int x :: S) (rz_mk h ι, w) := rz_s1 fun _ => rfl
theorem g284_64 : rg Z d rx_m284 64 L S (rz_mk h ι, w) = rg Z d rx_m284 66 L (.int 62 :: S) (rz_mk h ι, w) := rz_s1 fun _ => rfl
theorem g284_66 : rg Z d rx_m284 66 L (.int y :: .int x :: S) (rz_mk h ι, w) = if x < y then rg Z d rx_m284 69 L S (rz_mk h ι, w) else rg Z d rx_m284 99 L S (rz_mk h ι, w) := rz_if2 (pc := 66) (t := 99) (off := 33) (cc := .ge) (by decide) rfl
theorem g284_69 : rg Z d rx_m284 69 [some (.ref a), l1, l2, l3, l4] S (rz_mk h ι, w) = rg Z d rx_m284 70 [some (.ref a), l1, l2, l3, l4] (.ref a :: S) (rz_mk h ι, w) := rz_s1 fun _ => rfl
theorem g284_70 (c : rz_fR h a 12 27) : rg Z d rx_m284 70 L (.ref a :: S) (rz_mk h ι, w) = rg Z d rx_m284 73 L (rz_rv h a 27 :: S) (rz_mk h ι, w) := rz_gR rfl (by decide) c
theorem g284_73 : rg Z d rx_m284 73 [l0, l1, l2, some (.int x), l4] S (rz_mk h ι, w) = rg Z d rx_m284 74 [l0, l1, l2, some (.int x), l4] (.int x :: S) (rz_mk h ι, w) := rz_s1 fun _ => rfl
theorem g284_74 (c : rz_ar h a 3) (hi : rz_ix x (rz_ln h a)) : rg Z d rx_m284 74 L (.int x :: .ref a :: S) (rz_mk h ι, w) = rg Z d rx_m284 75 L (rz_el h a x.toNatClampNeg :: S) (rz_mk h ι, w) := rz_aald (by decide) rfl c hi
theorem g284_75 : rg Z d rx_m284 75 [l0, l1, l2, l3, some (.int x)] S (rz_mk h ι, w) = rg Z d rx_m284 77 [l0, l1, l2, l3, some (.int x)] (.int x :: S) (rz_mk h ι, w) := rz_s1 fun _ => rfl
theorem g284_77 : rg Z d rx_m284 77 [some (.ref a), l1, l2, l3, l4] S (rz_mk h ι, w) = rg Z d rx_m284 78 [some (.ref a), l1, l2, l3, l4] (.ref a :: S) (rz_mk h ι, w) := rz_s1 fun _ => rfl
theorem g284_78 : rg Z d rx_m284 78 [l0, some (.ref a), l2, l3, l4] S (rz_mk h ι, w) = rg Z d rx_m284 79 [l0, some (.ref a), l2, l3, l4] (.ref a :: S) (rz_mk h ι, w) := rz_s1 fun _ => rfl
theorem g284_79 : rg Z d rx_m284 79 [some (.ref a), l1, l2, l3, l4] S (rz_mk h ι, w) = rg Z d rx_m284 80 [some (.ref a), l1, l2, l3, l4] (.ref a :: S) (rz_mk h ι, w) := rz_s1 fun _ => rfl
theorem g284_80 (c : rz_fR h a 12 27) : rg Z d rx_m284 80 L (.ref a :: S) (rz_mk h ι, w) = rg Z d rx_m284 83 L (rz_rv h a 27 :: S) (rz_mk h ι, w) := rz_gR rfl (by decide) c
theorem g284_83 : rg Z d rx_m284 83 [l0, l1, l2, some (.int x), l4] S (rz_mk h ι, w) = rg Z d rx_m284 84 [l0, l1, l2, some (.int x), l4] (.int x :: S) (rz_mk h ι, w) := rz_s1 fun _ => rfl
theorem g284_84 (c : rz_ar h a 3) (hi : rz_ix x (rz_ln h a)) : rg Z d rx_m284 84 L (.int x :: .ref a :: S) (rz_mk h ι, w) = rg Z d rx_m284 85 L (rz_el h a x.toNatClampNeg :: S) (rz_mk h ι, w) := rz_aald (by decide) rfl c hi
theorem g284_85 : rg Z d rx_m284 85 [l0, l1, l2, l3, some (.int x)] S (rz_mk h ι, w) = rg Z d rx_m284 87 [l0, l1, l2, l3, some (.int x)] (.int x :: S) (rz_mk h ι, w) := rz_s1 fun _ => rfl
theorem g284_87 (c : rz_ar h a 0) (hi : rz_ix x (rz_ln h a)) : rg Z d rx_m284 87 L (.int x :: .ref a :: S) (rz_mk h ι, w) = rg Z d rx_m284 88 L (.int (ι a x.toNatClampNeg) :: S) (rz_mk h ι, w) := rz_iald rfl c hi
theorem g284_88 : rg Z d rx_m284 88 [l0, l1, some (.int x), l3, l4] S (rz_mk h ι, w) = rg Z d rx_m284 89 [l0, l1, some (.int x), l3, l4] (.int x :: S) (rz_mk h ι, w) := rz_s1 fun _ => rfl
theorem g284_89 (c : rz_oc h a 12) : rg Z d rx_m284 89 L (v3 :: v2 :: v1 :: .ref a :: [.int s0, .ref t1]) (rz_mk h ι, w) = rz_k true (rz_f Z d 283 [.ref a, v1, v2, v3] (rz_mk h ι, w)) (fun v σ' => rg Z d rx_m284 92 L (v.toList ++ [.int s0, .ref t1]) σ') := rz_cv (pc := 89) (n := 3) (mi := 283) (S := v3 :: v2 :: v1 :: .ref a :: [.int s0, .ref t1]) (rest := [.int s0, .ref t1]) rfl rfl (Nat.le_of_ble_eq_true rfl) (Nat.le_of_ble_eq_true rfl) c
theorem g284_92 (c : rz_ar h a 0) (hi : rz_ix x (rz_ln h a)) (hz : Z.2.1 ≤ a) : rg Z d rx_m284 92 L (.int y :: .int x :: .ref a :: S) (rz_mk h ι, w) = rg Z d rx_m284 93 L S (rz_mk h (rz_up ι a x.toNatClampNeg y), w) := rz_iast rfl c hi hz
theorem g284_93 : rg Z d rx_m284 93 [l0, l1, l2, some (.int z), some (.int x)] S (rz_mk h ι, w) = rg Z d rx_m284 96 [l0, l1, l2, some (.int z), some (.int (x + 1))] S (rz_mk h ι, w) := rz_s1 fun _ => rfl
theorem g284_96 : rg Z d rx_m284 96 L S (rz_mk h ι, w) = rg Z d rx_m284 62 L S (rz_mk h ι, w) := rz_s1 fun _ => rfl
theorem g284_99 : rg Z d rx_m284 99 [l0, l1, some (.int z), some (.int x), l4] S (rz_mk h ι, w) = rg Z d rx_m284 102 [l0, l1, some (.int z), some (.int (x + 1)), l4] S (rz_mk h ι, w) := rz_s1 fun _ => rfl
theorem g284_102 : rg Z d rx_m284 102 L S (rz_mk h ι, w) = rg Z d rx_m284 53 L S (rz_mk h ι, w) := rz_s1 fun _ => rfl
theorem g284_105 : rg Z d rx_m284 105 L [] (rz_mk h ι, w) = some (.inl none, (rz_mk h ι, w)) := rz_r1 fun _ => rfl
theorem e284 : rz_f Z (d + 1) 284 [.ref t0, .ref t1, .int s2] σ = rg Z d rx_m284 0 [some (.ref t0), some (.ref t1), some (.int s2), none, none] [] σ := rz_f_eq rfl (Nat.le_of_ble_eq_true rfl)
theorem g285_0 : rg Z d rx_m285 0 [some (.ref a)] S (rz_mk h ι, w) = rg Z d rx_m285 1 [some (.ref a)] (.ref a :: S) (rz_mk h ι, w) := rz_s1 fun _ => rfl
theorem g285_1 : rg Z d rx_m285 1 L S (rz_mk h ι, w) = rg Z d rx_m285 2 L (.int 0 :: S) (rz_mk h ι, w) := rz_s1 fun _ => rfl
theorem g285_2 (c : rz_fI h a 12 0) (hz : Z.2.1 ≤ a) : rg Z d rx_m285 2 L (.int x :: .ref a :: S) (rz_mk h ι, w) = rg Z d rx_m285 5 L S (rz_mk h (rz_up ι a 0 x), w) := rz_pI rfl c hz
theorem g285_5 : rg Z d rx_m285 5 [some (.ref a)] S (rz_mk h ι, w) = rg Z d rx_m285 6 [some (.ref a)] (.ref a :: S) (rz_mk h ι, w) := rz_s1 fun _ => rfl
theorem g285_6 (c : rz_fI h a 12 32) : rg Z d rx_m285 6 L (.ref a :: S) (rz_mk h ι, w) = rg Z d rx_m285 9 L (.int (ι a 32) :: S) (rz_mk h ι, w) := rz_gI rfl (by decide) c
theorem g285_9 : rg Z d rx_m285 9 L S (rz_mk h ι, w) = rg Z d rx_m285 10 L (.int 3 :: S) (rz_mk h ι, w) := rz_s1 fun _ => rfl
theorem g285_10 : rg Z d rx_m285 10 L (.int y :: .int x :: S) (rz_mk h ι, w) = if x = y then rg Z d rx_m285 13 L S (rz_mk h ι, w) else rg Z d rx_m285 15 L S (rz_mk h ι, w) := rz_if2 (pc := 10) (t := 15) (off := 5) (cc := .ne) (by decide) rfl
theorem g285_13 : rg Z d rx_m285 13 L S (rz_mk h ι, w) = rg Z d rx_m285 14 L (.int (-1) :: S) (rz_mk h ι, w) := rz_s1 fun _ => rfl
theorem g285_14 : rg Z d rx_m285 14 L [.int x] (rz_mk h ι, w) = some (.inl (some (.int x)), (rz_mk h ι, w)) := rz_reti rfl rfl rfl
theorem g285_15 : rg Z d rx_m285 15 [some (.ref a)] S (rz_mk h ι, w) = rg Z d rx_m285 16 [some (.ref a)] (.ref a :: S) (rz_mk h ι, w) := rz_s1 fun _ => rfl
theorem g285_16 : rg Z d rx_m285 16 [some (.ref a)] S (rz_mk h ι, w) = rg Z d rx_m285 17 [some (.ref a)] (.ref a :: S) (rz_mk h ι, w) := rz_s1 fun _ => rfl
theorem g285_17 (c : rz_fR h a 12 28) : rg Z d rx_m285 17 L (.ref a :: S) (rz_mk h ι, w) = rg Z d rx_m285 20 L (rz_rv h a 28 :: S) (rz_mk h ι, w) := rz_gR rfl (by decide) c
theorem g285_20 : rg Z d rx_m285 20 [some (.ref a)] S (rz_mk h ι, w) = rg Z d rx_m285 21 [some (.ref a)] (.ref a :: S) (rz_mk h ι, w) := rz_s1 fun _ => rfl
theorem g285_21 (c : rz_fI h a 12 32) : rg Z d rx_m285 21 L (.ref a :: S) (rz_mk h ι, w) = rg Z d rx_m285 24 L (.int (ι a 32) :: S) (rz_mk h ι, w) := rz_gI rfl (by decide) c
theorem g285_24 (c : rz_ar h a 3) (hi : rz_ix x (rz_ln h a)) : rg Z d rx_m285 24 L (.int x :: .ref a :: S) (rz_mk h ι, w) = rg Z d rx_m285 25 L (rz_el h a x.toNatClampNeg :: S) (rz_mk h ι, w) := rz_aald (by decide) rfl c hi
theorem g285_25 : rg Z d rx_m285 25 L S (rz_mk h ι, w) = rg Z d rx_m285 26 L (.int 0 :: S) (rz_mk h ι, w) := rz_s1 fun _ => rfl
theorem g285_26 (c : rz_oc h a 12) : rg Z d rx_m285 26 L (v2 :: v1 :: .ref a :: []) (rz_mk h ι, w) = rz_k true (rz_f Z d 284 [.ref a, v1, v2] (rz_mk h ι, w)) (fun v σ' => rg Z d rx_m285 29 L (v.toList ++ []) σ') := rz_cv (pc := 26) (n := 2) (mi := 284) (S := v2 :: v1 :: .ref a :: []) (rest := []) rfl rfl (Nat.le_of_ble_eq_true rfl) (Nat.le_of_ble_eq_true rfl) c
theorem g285_29 : rg Z d rx_m285 29 [some (.ref a)] S (rz_mk h ι, w) = rg Z d rx_m285 30 [some (.ref a)] (.ref a :: S) (rz_mk h ι, w) := rz_s1 fun _ => rfl
theorem g285_30 : rg Z d rx_m285 30 L (.ref a :: S) (rz_mk h ι, w) = rg Z d rx_m285 31 L (.ref a :: .ref a :: S) (rz_mk h ι, w) := rz_s1 fun _ => rfl
theorem g285_31 (c : rz_fI h a 12 32) : rg Z d rx_m285 31 L (.ref a :: S) (rz_mk h ι, w) = rg Z d rx_m285 34 L (.int (ι a 32) :: S) (rz_mk h ι, w) := rz_gI rfl (by decide) c
theorem g285_34 : rg Z d rx_m285 34 L S (rz_mk h ι, w) = rg Z d rx_m285 35 L (.int 1 :: S) (rz_mk h ι, w) := rz_s1 fun _ => rfl
theorem g285_35 : rg Z d rx_m285 35 L (.int y :: .int x :: S) (rz_mk h ι, w) = rg Z d rx_m285 36 L (.int (x + y) :: S) (rz_mk h ι, w) := rz_s1 fun _ => rfl
theorem g285_36 (c : rz_fI h a 12 32) (hz : Z.2.1 ≤ a) : rg Z d rx_m285 36 L (.int x :: .ref a :: S) (rz_mk h ι, w) = rg Z d rx_m285 39 L S (rz_mk h (rz_up ι a 32 x), w) := rz_pI rfl c hz
theorem g285_39 : rg Z d rx_m285 39 [some (.ref a)] S (rz_mk h ι, w) = rg Z d rx_m285 40 [some (.ref a)] (.ref a :: S) (rz_mk h ι, w) := rz_s1 fun _ => rfl
theorem g285_40 (c : rz_fI h a 12 32) : rg Z d rx_m285 40 L (.ref a :: S) (rz_mk h ι, w) = rg Z d rx_m285 43 L (.int (ι a 32) :: S) (rz_mk h ι, w) := rz_gI rfl (by decide) c
theorem g285_43 : rg Z d rx_m285 43 L [.int x] (rz_mk h ι, w) = some (.inl (some (.int x)), (rz_mk h ι, w)) := rz_reti rfl rfl rfl
theorem e285 : rz_f Z (d + 1) 285 [.ref t0] σ = rg Z d rx_m285 0 [some (.ref t0)] [] σ := rz_f_eq rfl (Nat.le_of_ble_eq_true rfl)
theorem g286_0 : rg Z d rx_m286 0 [some (.ref a)] S (rz_mk h ι, w) = rg Z d rx_m286 1 [some (.ref a)] (.ref a :: S) (rz_mk h ι, w) := rz_s1 fun _ => rfl
theorem g286_1 : rg Z d rx_m286 1 L S (rz_mk h ι, w) = rg Z d rx_m286 2 L (.int 0 :: S) (rz_mk h ι, w) := rz_s1 fun _ => rfl
theorem g286_2 (c : rz_fI h a 12 0) (hz : Z.2.1 ≤ a) : rg Z d rx_m286 2 L (.int x :: .ref a :: S) (rz_mk h ι, w) = rg Z d rx_m286 5 L S (rz_mk h (rz_up ι a 0 x), w) := rz_pI rfl c hz
theorem g286_5 : rg Z d rx_m286 5 [some (.ref a)] S (rz_mk h ι, w) = rg Z d rx_m286 6 [some (.ref a)] (.ref a :: S) (rz_mk h ι, w) := rz_s1 fun _ => rfl
theorem g286_6 (c : rz_fI h a 12 32) : rg Z d rx_m286 6 L (.ref a :: S) (rz_mk h ι, w) = rg Z d rx_m286 9 L (.int (ι a 32) :: S) (rz_mk h ι, w) := rz_gI rfl (by decide) c
theorem g286_9 : rg Z d rx_m286 9 L (.int x :: S) (rz_mk h ι, w) = if x = 0 then rg Z d rx_m286 12 L S (rz_mk h ι, w) else rg Z d rx_m286 14 L S (rz_mk h ι, w) := rz_if1 (pc := 9) (t := 14) (off := 5) (cc := .ne) (by decide) rfl
theorem g286_12 : rg Z d rx_m286 12 L S (rz_mk h ι, w) = rg Z d rx_m286 13 L (.int (-1) :: S) (rz_mk h ι, w) := rz_s1 fun _ => rfl
theorem g286_13 : rg Z d rx_m286 13 L [.int x] (rz_mk h ι, w) = some (.inl (some (.int x)), (rz_mk h ι, w)) := rz_reti rfl rfl rfl
theorem g286_14 : rg Z d rx_m286 14 [some (.ref a)] S (rz_mk h ι, w) = rg Z d rx_m286 15 [some (.ref a)] (.ref a :: S) (rz_mk h ι, w) := rz_s1 fun _ => rfl
theorem g286_15 : rg Z d rx_m286 15 L (.ref a :: S) (rz_mk h ι, w) = rg Z d rx_m286 16 L (.ref a :: .ref a :: S) (rz_mk h ι, w) := rz_s1 fun _ => rfl
theorem g286_16 (c : rz_fI h a 12 32) : rg Z d rx_m286 16 L (.ref a :: S) (rz_mk h ι, w) = rg Z d rx_m286 19 L (.int (ι a 32) :: S) (rz_mk h ι, w) := rz_gI rfl (by decide) c
theorem g286_19 : rg Z d rx_m286 19 L S (rz_mk h ι, w) = rg Z d rx_m286 20 L (.int 1 :: S) (rz_mk h ι, w) := rz_s1 fun _ => rfl
theorem g286_20 : rg Z d rx_m286 20 L (.int y :: .int x :: S) (rz_mk h ι, w) = rg Z d rx_m286 21 L (.int (x - y) :: S) (rz_mk h ι, w) := rz_s1 fun _ => rfl
theorem g286_21 (c : rz_fI h a 12 32) (hz : Z.2.1 ≤ a) : rg Z d rx_m286 21 L (.int x :: .ref a :: S) (rz_mk h ι, w) = rg Z d rx_m286 24 L S (rz_mk h (rz_up ι a 32 x), w) := rz_pI rfl c hz
theorem g286_24 : rg Z d rx_m286 24 [some (.ref a)] S (rz_mk h ι, w) = rg Z d rx_m286 25 [some (.ref a)] (.ref a :: S) (rz_mk h ι, w) := rz_s1 fun _ => rfl
theorem g286_25 : rg Z d rx_m286 25 [some (.ref a)] S (rz_mk h ι, w) = rg Z d rx_m286 26 [some (.ref a)] (.ref a :: S) (rz_mk h ι, w) := rz_s1 fun _ => rfl
theorem g286_26 (c : rz_fR h a 12 28) : rg Z d rx_m286 26 L (.ref a :: S) (rz_mk h ι, w) = rg Z d rx_m286 29 L (rz_rv h a 28 :: S) (rz_mk h ι, w) := rz_gR rfl (by decide) c
theorem g286_29 : rg Z d rx_m286 29 [some (.ref a)] S (rz_mk h ι, w) = rg Z d rx_m286 30 [some (.ref a)] (.ref a :: S) (rz_mk h ι, w) := rz_s1 fun _ => rfl
theorem g286_30 (c : rz_fI h a 12 32) : rg Z d rx_m286 30 L (.ref a :: S) (rz_mk h ι, w) = rg Z d rx_m286 33 L (.int (ι a 32) :: S) (rz_mk h ι, w) := rz_gI rfl (by decide) c
theorem g286_33 (c : rz_ar h a 3) (hi : rz_ix x (rz_ln h a)) : rg Z d rx_m286 33 L (.int x :: .ref a :: S) (rz_mk h ι, w) = rg Z d rx_m286 34 L (rz_el h a x.toNatClampNeg :: S) (rz_mk h ι, w) := rz_aald (by decide) rfl c hi
theorem g286_34 : rg Z d rx_m286 34 L S (rz_mk h ι, w) = rg Z d rx_m286 35 L (.int 1 :: S) (rz_mk h ι, w) := rz_s1 fun _ => rfl
theorem g286_35 (c : rz_oc h a 12) : rg Z d rx_m286 35 L (v2 :: v1 :: .ref a :: []) (rz_mk h ι, w) = rz_k true (rz_f Z d 284 [.ref a, v1, v2] (rz_mk h ι, w)) (fun v σ' => rg Z d rx_m286 38 L (v.toList ++ []) σ') := rz_cv (pc := 35) (n := 2) (mi := 284) (S := v2 :: v1 :: .ref a :: []) (rest := []) rfl rfl (Nat.le_of_ble_eq_true rfl) (Nat.le_of_ble_eq_true rfl) c
theorem g286_38 : rg Z d rx_m286 38 [some (.ref a)] S (rz_mk h ι, w) = rg Z d rx_m286 39 [some (.ref a)] (.ref a :: S) (rz_mk h ι, w) := rz_s1 fun _ => rfl
theorem g286_39 : rg Z d rx_m286 39 L S (rz_mk h ι, w) = rg Z d rx_m286 40 L (.int 0 :: S) (rz_mk h ι, w) := rz_s1 fun _ => rfl
theorem g286_40 (c : rz_fI h a 12 31) (hz : Z.2.1 ≤ a) : rg Z d rx_m286 40 L (.int x :: .ref a :: S) (rz_mk h ι, w) = rg Z d rx_m286 43 L S (rz_mk h (rz_up ι a 31 x), w) := rz_pI rfl c hz
theorem g286_43 : rg Z d rx_m286 43 [some (.ref a)] S (rz_mk h ι, w) = rg Z d rx_m286 44 [some (.ref a)] (.ref a :: S) (rz_mk h ι, w) := rz_s1 fun _ => rfl
theorem g286_44 (c : rz_fI h a 12 32) : rg Z d rx_m286 44 L (.ref a :: S) (rz_mk h ι, w) = rg Z d rx_m286 47 L (.int (ι a 32) :: S) (rz_mk h ι, w) := rz_gI rfl (by decide) c
theorem g286_47 : rg Z d rx_m286 47 L [.int x] (rz_mk h ι, w) = some (.inl (some (.int x)), (rz_mk h ι, w)) := rz_reti rfl rfl rfl
theorem e286 : rz_f Z (d + 1) 286 [.ref t0] σ = rg Z d rx_m286 0 [some (.ref t0)] [] σ := rz_f_eq rfl (Nat.le_of_ble_eq_true rfl)
theorem g287_0 : rg Z d rx_m287 0 [some (.ref a), l1] S (rz_mk h ι, w) = rg Z d rx_m287 1 [some (.ref a), l1] (.ref a :: S) (rz_mk h ι, w) := rz_s1 fun _ => rfl
theorem g287_1 : rg Z d rx_m287 1 L S (rz_mk h ι, w) = rg Z d rx_m287 2 L (.int 0 :: S) (rz_mk h ι, w) := rz_s1 fun _ => rfl
theorem g287_2 (c : rz_fI h a 12 0) (hz : Z.2.1 ≤ a) : rg Z d rx_m287 2 L (.int x :: .ref a :: S) (rz_mk h ι, w) = rg Z d rx_m287 5 L S (rz_mk h (rz_up ι a 0 x), w) := rz_pI rfl c hz
theorem g287_5 : rg Z d rx_m287 5 [l0, some (.int x)] S (rz_mk h ι, w) = rg Z d rx_m287 6 [l0, some (.int x)] (.int x :: S) (rz_mk h ι, w) := rz_s1 fun _ => rfl
theorem g287_6 : rg Z d rx_m287 6 L S (rz_mk h ι, w) = rg Z d rx_m287 7 L (.int 0 :: S) (rz_mk h ι, w) := rz_s1 fun _ => rfl
theorem g287_7 : rg Z d rx_m287 7 L S (rz_mk h ι, w) = rg Z d rx_m287 8 L (.int 1 :: S) (rz_mk h ι, w) := rz_s1 fun _ => rfl
theorem g287_8 : rg Z d rx_m287 8 L (v3 :: v2 :: v1 :: []) (rz_mk h ι, w) = rz_k true (rz_f Z d 175 [v1, v2, v3] (rz_mk h ι, w)) (fun v σ' => rg Z d rx_m287 11 L (v.toList ++ []) σ') := rz_cs (pc := 8) (n := 3) (mi := 175) (S := v3 :: v2 :: v1 :: []) (rest := []) rfl rfl (Nat.le_of_ble_eq_true rfl) (Nat.le_of_ble_eq_true rfl)
theorem g287_11 : rg Z d rx_m287 11 L (.int x :: S) (rz_mk h ι, w) = if x = 0 then rg Z d rx_m287 23 L S (rz_mk h ι, w) else rg Z d rx_m287 14 L S (rz_mk h ι, w) := rz_if1 (pc := 11) (t := 23) (off := 12) (cc := .eq) (by decide) rfl
theorem g287_14 : rg Z d rx_m287 14 [some (.ref a), l1] S (rz_mk h ι, w) = rg Z d rx_m287 15 [some (.ref a), l1] (.ref a :: S) (rz_mk h ι, w) := rz_s1 fun _ => rfl
theorem g287_15 (c : rz_fR h a 12 10) : rg Z d rx_m287 15 L (.ref a :: S) (rz_mk h ι, w) = rg Z d rx_m287 18 L (rz_rv h a 10 :: S) (rz_mk h ι, w) := rz_gR rfl (by decide) c
theorem g287_18 : rg Z d rx_m287 18 [l0, some (.int x)] S (rz_mk h ι, w) = rg Z d rx_m287 19 [l0, some (.int x)] (.int x :: S) (rz_mk h ι, w) := rz_s1 fun _ => rfl
theorem g287_19 (c : rz_ar h a 0) (hi : rz_ix x (rz_ln h a)) : rg Z d rx_m287 19 L (.int x :: .ref a :: S) (rz_mk h ι, w) = rg Z d rx_m287 20 L (.int (ι a x.toNatClampNeg) :: S) (rz_mk h ι, w) := rz_iald rfl c hi
theorem g287_20 : rg Z d rx_m287 20 L S (rz_mk h ι, w) = rg Z d rx_m287 24 L S (rz_mk h ι, w) := rz_s1 fun _ => rfl
theorem g287_23 : rg Z d rx_m287 23 L S (rz_mk h ι, w) = rg Z d rx_m287 24 L (.int (-1) :: S) (rz_mk h ι, w) := rz_s1 fun _ => rfl
theorem g287_24 : rg Z d rx_m287 24 L [.int x] (rz_mk h ι, w) = some (.inl (some (.int x)), (rz_mk h ι, w)) := rz_reti rfl rfl rfl
theorem e287 : rz_f Z (d + 1) 287 [.ref t0, .int s1] σ = rg Z d rx_m287 0 [some (.ref t0), some (.int s1)] [] σ := rz_f_eq rfl (Nat.le_of_ble_eq_true rfl)
theorem g288_0 : rg Z d rx_m288 0 [some (.ref a), l1] S (rz_mk h ι, w) = rg Z d rx_m288 1 [some (.ref a), l1] (.ref a :: S) (rz_mk h ι, w) := rz_s1 fun _ => rfl
theorem g288_1 : rg Z d rx_m288 1 L S (rz_mk h ι, w) = rg Z d rx_m288 2 L (.int 0 :: S) (rz_mk h ι, w) := rz_s1 fun _ => rfl
theorem g288_2 (c : rz_fI h a 12 0) (hz : Z.2.1 ≤ a) : rg Z d rx_m288 2 L (.int x :: .ref a :: S) (rz_mk h ι, w) = rg Z d rx_m288 5 L S (rz_mk h (rz_up ι a 0 x), w) := rz_pI rfl c hz
theorem g288_5 : rg Z d rx_m288 5 [l0, some (.int x)] S (rz_mk h ι, w) = rg Z d rx_m288 6 [l0, some (.int x)] (.int x :: S) (rz_mk h ι, w) := rz_s1 fun _ => rfl
theorem g288_6 : rg Z d rx_m288 6 L (.int x :: S) (rz_mk h ι, w) = if x = 0 then rg Z d rx_m288 9 L S (rz_mk h ι, w) else rg Z d rx_m288 16 L S (rz_mk h ι, w) := rz_if1 (pc := 6) (t := 16) (off := 10) (cc := .ne) (by decide) rfl
theorem g288_9 : rg Z d rx_m288 9 [some (.ref a), l1] S (rz_mk h ι, w) = rg Z d rx_m288 10 [some (.ref a), l1] (.ref a :: S) (rz_mk h ι, w) := rz_s1 fun _ => rfl
theorem g288_10 (c : rz_fI h a 12 32) : rg Z d rx_m288 10 L (.ref a :: S) (rz_mk h ι, w) = rg Z d rx_m288 13 L (.int (ι a 32) :: S) (rz_mk h ι, w) := rz_gI rfl (by decide) c
theorem g288_13 : rg Z d rx_m288 13 L S (rz_mk h ι, w) = rg Z d rx_m288 41 L S (rz_mk h ι, w) := rz_s1 fun _ => rfl
theorem g288_16 : rg Z d rx_m288 16 [l0, some (.int x)] S (rz_mk h ι, w) = rg Z d rx_m288 17 [l0, some (.int x)] (.int x :: S) (rz_mk h ι, w) := rz_s1 fun _ => rfl
theorem g288_17 : rg Z d rx_m288 17 L S (rz_mk h ι, w) = rg Z d rx_m288 18 L (.int 1 :: S) (rz_mk h ι, w) := rz_s1 fun _ => rfl
theorem g288_18 : rg Z d rx_m288 18 L (.int y :: .int x :: S) (rz_mk h ι, w) = if x = y then rg Z d rx_m288 21 L S (rz_mk h ι, w) else rg Z d rx_m288 28 L S (rz_mk h ι, w) := rz_if2 (pc := 18) (t := 28) (off := 10) (cc := .ne) (by decide) rfl
theorem g288_21 : rg Z d rx_m288 21 [some (.ref a), l1] S (rz_mk h ι, w) = rg Z d rx_m288 22 [some (.ref a), l1] (.ref a :: S) (rz_mk h ι, w) := rz_s1 fun _ => rfl
theorem g288_22 (c : rz_fI h a 12 1) : rg Z d rx_m288 22 L (.ref a :: S) (rz_mk h ι, w) = rg Z d rx_m288 25 L (.int (ι a 1) :: S) (rz_mk h ι, w) := rz_gI rfl (by decide) c
theorem g288_25 : rg Z d rx_m288 25 L S (rz_mk h ι, w) = rg Z d rx_m288 41 L S (rz_mk h ι, w) := rz_s1 fun _ => rfl
theorem g288_28 : rg Z d rx_m288 28 [l0, some (.int x)] S (rz_mk h ι, w) = rg Z d rx_m288 29 [l0, some (.int x)] (.int x :: S) (rz_mk h ι, w) := rz_s1 fun _ => rfl
theorem g288_29 : rg Z d rx_m288 29 L S (rz_mk h ι, w) = rg Z d rx_m288 30 L (.int 2 :: S) (rz_mk h ι, w) := rz_s1 fun _ => rfl
theorem g288_30 : rg Z d rx_m288 30 L (.int y :: .int x :: S) (rz_mk h ι, w) = if x = y then rg Z d rx_m288 33 L S (rz_mk h ι, w) else rg Z d rx_m288 40 L S (rz_mk h ι, w) := rz_if2 (pc := 30) (t := 40) (off := 10) (cc := .ne) (by decide) rfl
theorem g288_33 : rg Z d rx_m288 33 [some (.ref a), l1] S (rz_mk h ι, w) = rg Z d rx_m288 34 [some (.ref a), l1] (.ref a :: S) (rz_mk h ι, w) := rz_s1 fun _ => rfl
theorem g288_34 (c : rz_fI h a 12 30) : rg Z d rx_m288 34 L (.ref a :: S) (rz_mk h ι, w) = rg Z d rx_m288 37 L (.int (ι a 30) :: S) (rz_mk h ι, w) := rz_gI rfl (by decide) c
theorem g288_37 : rg Z d rx_m288 37 L S (rz_mk h ι, w) = rg Z d rx_m288 41 L S (rz_mk h ι, w) := rz_s1 fun _ => rfl
theorem g288_40 : rg Z d rx_m288 40 L S (rz_mk h ι, w) = rg Z d rx_m288 41 L (.int (-1) :: S) (rz_mk h ι, w) := rz_s1 fun _ => rfl
theorem g288_41 : rg Z d rx_m288 41 L [.int x] (rz_mk h ι, w) = some (.inl (some (.int x)), (rz_mk h ι, w)) := rz_reti rfl rfl rfl
theorem e288 : rz_f Z (d + 1) 288 [.ref t0, .int s1] σ = rg Z d rx_m288 0 [some (.ref t0), some (.int s1)] [] σ := rz_f_eq rfl (Nat.le_of_ble_eq_true rfl)
theorem g289_0 : rg Z d rx_m289 0 [some (.int x), l1] S (rz_mk h ι, w) = rg Z d rx_m289 1 [some (.int x), l1] (.int x :: S) (rz_mk h ι, w) := rz_s1 fun _ => rfl
theorem g289_1 : rg Z d rx_m289 1 L S (rz_mk h ι, w) = rg Z d rx_m289 2 L (.int (-1) :: S) (rz_mk h ι, w) := rz_s1 fun _ => rfl
theorem g289_2 : rg Z d rx_m289 2 L (.int y :: .int x :: S) (rz_mk h ι, w) = rg Z d rx_m289 3 L (.int (x ^^^ y) :: S) (rz_mk h ι, w) := rz_s1 fun _ => rfl
theorem g289_3 : rg Z d rx_m289 3 [some (.int x), l1] S (rz_mk h ι, w) = rg Z d rx_m289 4 [some (.int x), l1] (.int x :: S) (rz_mk h ι, w) := rz_s1 fun _ => rfl
theorem g289_4 : rg Z d rx_m289 4 L S (rz_mk h ι, w) = rg Z d rx_m289 5 L (.int 1 :: S) (rz_mk h ι, w) := rz_s1 fun _ => rfl
theorem g289_5 : rg Z d rx_m289 5 L (.int y :: .int x :: S) (rz_mk h ι, w) = rg Z d rx_m289 6 L (.int (x - y) :: S) (rz_mk h ι, w) := rz_s1 fun _ => rfl
theorem g289_6 : rg Z d rx_m289 6 L (.int y :: .int x :: S) (rz_mk h ι, w) = rg Z d rx_m289 7 L (.int (x &&& y) :: S) (rz_mk h ι, w) := rz_s1 fun _ => rfl
theorem g289_7 : rg Z d rx_m289 7 [l0, l1] (.int x :: S) (rz_mk h ι, w) = rg Z d rx_m289 8 [some (.int x), l1] S (rz_mk h ι, w) := rz_s1 fun _ => rfl
theorem g289_8 : rg Z d rx_m289 8 [some (.int x), l1] S (rz_mk h ι, w) = rg Z d rx_m289 9 [some (.int x), l1] (.int x :: S) (rz_mk h ι, w) := rz_s1 fun _ => rfl
theorem g289_9 : rg Z d rx_m289 9 L (.int x :: S) (rz_mk h ι, w) = if 0 < x then rg Z d rx_m289 17 L S (rz_mk h ι, w) else rg Z d rx_m289 12 L S (rz_mk h ι, w) := rz_if1 (pc := 9) (t := 17) (off := 8) (cc := .gt) (by decide) rfl
theorem g289_12 : rg Z d rx_m289 12 [some (.int x), l1] S (rz_mk h ι, w) = rg Z d rx_m289 13 [some (.int x), l1] (.int x :: S) (rz_mk h ι, w) := rz_s1 fun _ => rfl
theorem g289_13 : rg Z d rx_m289 13 L S (rz_mk h ι, w) = rg Z d rx_m289 15 L (.int 32 :: S) (rz_mk h ι, w) := rz_s1 fun _ => rfl
theorem g289_15 : rg Z d rx_m289 15 L (.int y :: .int x :: S) (rz_mk h ι, w) = rg Z d rx_m289 16 L (.int (x &&& y) :: S) (rz_mk h ι, w) := rz_s1 fun _ => rfl
theorem g289_16 : rg Z d rx_m289 16 L [.int x] (rz_mk h ι, w) = some (.inl (some (.int x)), (rz_mk h ι, w)) := rz_reti rfl rfl rfl
theorem g289_17 : rg Z d rx_m289 17 L S (rz_mk h ι, w) = rg Z d rx_m289 18 L (.int 1 :: S) (rz_mk h ι, w) := rz_s1 fun _ => rfl
theorem g289_18 : rg Z d rx_m289 18 [some (.int z), l1] (.int x :: S) (rz_mk h ι, w) = rg Z d rx_m289 19 [some (.int z), some (.int x)] S (rz_mk h ι, w) := rz_s1 fun _ => rfl
theorem g289_19 : rg Z d rx_m289 19 [some (.int x), l1] S (rz_mk h ι, w) = rg Z d rx_m289 20 [some (.int x), l1] (.int x :: S) (rz_mk h ι, w) := rz_s1 fun _ => rfl
theorem g289_20 : rg Z d rx_m289 20 L S (rz_mk h ι, w) = rg Z d rx_m289 23 L (.int 65536 :: S) (rz_mk h ι, w) := rz_s1 fun _ => rfl
theorem g289_23 : rg Z d rx_m289 23 L (.int y :: .int x :: S) (rz_mk h ι, w) = if y < x then rg Z d rx_m289 26 L S (rz_mk h ι, w) else rg Z d rx_m289 34 L S (rz_mk h ι, w) := rz_if2 (pc := 23) (t := 34) (off := 11) (cc := .le) (by decide) rfl
theorem g289_26 : rg Z d rx_m289 26 [some (.int z), some (.int x)] S (rz_mk h ι, w) = rg Z d rx_m289 29 [some (.int z), some (.int (x + 16))] S (rz_mk h ι, w) := rz_s1 fun _ => rfl
theorem g289_29 : rg Z d rx_m289 29 [some (.int x), l1] S (rz_mk h ι, w) = rg Z d rx_m289 30 [some (.int x), l1] (.int x :: S) (rz_mk h ι, w) := rz_s1 fun _ => rfl
theorem g289_30 : rg Z d rx_m289 30 L S (rz_mk h ι, w) = rg Z d rx_m289 32 L (.int 16 :: S) (rz_mk h ι, w) := rz_s1 fun _ => rfl
theorem g289_32 : rg Z d rx_m289 32 L (.int y :: .int x :: S) (rz_mk h ι, w) = rg Z d rx_m289 33 L (.int ((x.toUInt32 >>> (y.toUInt32 &&& Int32.toUInt32 31)).toInt32) :: S) (rz_mk h ι, w) := rz_s1 fun _ => rfl
theorem g289_33 : rg Z d rx_m289 33 [l0, l1] (.int x :: S) (rz_mk h ι, w) = rg Z d rx_m289 34 [some (.int x), l1] S (rz_mk h ι, w) := rz_s1 fun _ => rfl
theorem g289_34 : rg Z d rx_m289 34 [some (.int x), l1] S (rz_mk h ι, w) = rg Z d rx_m289 35 [some (.int x), l1] (.int x :: S) (rz_mk h ι, w) := rz_s1 fun _ => rfl
theorem g289_35 : rg Z d rx_m289 35 L S (rz_mk h ι, w) = rg Z d rx_m289 38 L (.int 256 :: S) (rz_mk h ι, w) := rz_s1 fun _ => rfl
theorem g289_38 : rg Z d rx_m289 38 L (.int y :: .int x :: S) (rz_mk h ι, w) = if y < x then rg Z d rx_m289 41 L S (rz_mk h ι, w) else rg Z d rx_m289 49 L S (rz_mk h ι, w) := rz_if2 (pc := 38) (t := 49) (off := 11) (cc := .le) (by decide) rfl
theorem g289_41 : rg Z d rx_m289 41 [some (.int z), some (.int x)] S (rz_mk h ι, w) = rg Z d rx_m289 44 [some (.int z), some (.int (x + 8))] S (rz_mk h ι, w) := rz_s1 fun _ => rfl
theorem g289_44 : rg Z d rx_m289 44 [some (.int x), l1] S (rz_mk h ι, w) = rg Z d rx_m289 45 [some (.int x), l1] (.int x :: S) (rz_mk h ι, w) := rz_s1 fun _ => rfl
theorem g289_45 : rg Z d rx_m289 45 L S (rz_mk h ι, w) = rg Z d rx_m289 47 L (.int 8 :: S) (rz_mk h ι, w) := rz_s1 fun _ => rfl
theorem g289_47 : rg Z d rx_m289 47 L (.int y :: .int x :: S) (rz_mk h ι, w) = rg Z d rx_m289 48 L (.int ((x.toUInt32 >>> (y.toUInt32 &&& Int32.toUInt32 31)).toInt32) :: S) (rz_mk h ι, w) := rz_s1 fun _ => rfl
theorem g289_48 : rg Z d rx_m289 48 [l0, l1] (.int x :: S) (rz_mk h ι, w) = rg Z d rx_m289 49 [some (.int x), l1] S (rz_mk h ι, w) := rz_s1 fun _ => rfl
theorem g289_49 : rg Z d rx_m289 49 [some (.int x), l1] S (rz_mk h ι, w) = rg Z d rx_m289 50 [some (.int x), l1] (.int x :: S) (rz_mk h ι, w) := rz_s1 fun _ => rfl
theorem g289_50 : rg Z d rx_m289 50 L S (rz_mk h ι, w) = rg Z d rx_m289 52 L (.int 16 :: S) (rz_mk h ι, w) := rz_s1 fun _ => rfl
theorem g289_52 : rg Z d rx_m289 52 L (.int y :: .int x :: S) (rz_mk h ι, w) = if y < x then rg Z d rx_m289 55 L S (rz_mk h ι, w) else rg Z d rx_m289 62 L S (rz_mk h ι, w) := rz_if2 (pc := 52) (t := 62) (off := 10) (cc := .le) (by decide) rfl
theorem g289_55 : rg Z d rx_m289 55 [some (.int z), some (.int x)] S (rz_mk h ι, w) = rg Z d rx_m289 58 [some (.int z), some (.int (x + 4))] S (rz_mk h ι, w) := rz_s1 fun _ => rfl
theorem g289_58 : rg Z d rx_m289 58 [some (.int x), l1] S (rz_mk h ι, w) = rg Z d rx_m289 59 [some (.int x), l1] (.int x :: S) (rz_mk h ι, w) := rz_s1 fun _ => rfl
theorem g289_59 : rg Z d rx_m289 59 L S (rz_mk h ι, w) = rg Z d rx_m289 60 L (.int 4 :: S) (rz_mk h ι, w) := rz_s1 fun _ => rfl
theorem g289_60 : rg Z d rx_m289 60 L (.int y :: .int x :: S) (rz_mk h ι, w) = rg Z d rx_m289 61 L (.int ((x.toUInt32 >>> (y.toUInt32 &&& Int32.toUInt32 31)).toInt32) :: S) (rz_mk h ι, w) := rz_s1 fun _ => rfl
theorem g289_61 : rg Z d rx_m289 61 [l0, l1] (.int x :: S) (rz_mk h ι, w) = rg Z d rx_m289 62 [some (.int x), l1] S (rz_mk h ι, w) := rz_s1 fun _ => rfl
theorem g289_62 : rg Z d rx_m289 62 [some (.int x), l1] S (rz_mk h ι, w) = rg Z d rx_m289 63 [some (.int x), l1] (.int x :: S) (rz_mk h ι, w) := rz_s1 fun _ => rfl
theorem g289_63 : rg Z d rx_m289 63 L S (rz_mk h ι, w) = rg Z d rx_m289 64 L (.int 4 :: S) (rz_mk h ι, w) := rz_s1 fun _ => rfl
theorem g289_64 : rg Z d rx_m289 64 L (.int y :: .int x :: S) (rz_mk h ι, w) = if y < x then rg Z d rx_m289 67 L S (rz_mk h ι, w) else rg Z d rx_m289 74 L S (rz_mk h ι, w) := rz_if2 (pc := 64) (t := 74) (off := 10) (cc := .le) (by decide) rfl
theorem g289_67 : rg Z d rx_m289 67 [some (.int z), some (.int x)] S (rz_mk h ι, w) = rg Z d rx_m289 70 [some (.int z), some (.int (x + 2))] S (rz_mk h ι, w) := rz_s1 fun _ => rfl
theorem g289_70 : rg Z d rx_m289 70 [some (.int x), l1] S (rz_mk h ι, w) = rg Z d rx_m289 71 [some (.int x), l1] (.int x :: S) (rz_mk h ι, w) := rz_s1 fun _ => rfl
theorem g289_71 : rg Z d rx_m289 71 L S (rz_mk h ι, w) = rg Z d rx_m289 72 L (.int 2 :: S) (rz_mk h ι, w) := rz_s1 fun _ => rfl
theorem g289_72 : rg Z d rx_m289 72 L (.int y :: .int x :: S) (rz_mk h ι, w) = rg Z d rx_m289 73 L (.int ((x.toUInt32 >>> (y.toUInt32 &&& Int32.toUInt32 31)).toInt32) :: S) (rz_mk h ι, w) := rz_s1 fun _ => rfl
theorem g289_73 : rg Z d rx_m289 73 [l0, l1] (.int x :: S) (rz_mk h ι, w) = rg Z d rx_m289 74 [some (.int x), l1] S (rz_mk h ι, w) := rz_s1 fun _ => rfl
theorem g289_74 : rg Z d rx_m289 74 [l0, some (.int x)] S (rz_mk h ι, w) = rg Z d rx_m289 75 [l0, some (.int x)] (.int x :: S) (rz_mk h ι, w) := rz_s1 fun _ => rfl
theorem g289_75 : rg Z d rx_m289 75 [some (.int x), l1] S (rz_mk h ι, w) = rg Z d rx_m289 76 [some (.int x), l1] (.int x :: S) (rz_mk h ι, w) := rz_s1 fun _ => rfl
theorem g289_76 : rg Z d rx_m289 76 L S (rz_mk h ι, w) = rg Z d rx_m289 77 L (.int 1 :: S) (rz_mk h ι, w) := rz_s1 fun _ => rfl
theorem g289_77 : rg Z d rx_m289 77 L (.int y :: .int x :: S) (rz_mk h ι, w) = rg Z d rx_m289 78 L (.int ((x.toUInt32 >>> (y.toUInt32 &&& Int32.toUInt32 31)).toInt32) :: S) (rz_mk h ι, w) := rz_s1 fun _ => rfl
theorem g289_78 : rg Z d rx_m289 78 L (.int y :: .int x :: S) (rz_mk h ι, w) = rg Z d rx_m289 79 L (.int (x + y) :: S) (rz_mk h ι, w) := rz_s1 fun _ => rfl
theorem g289_79 : rg Z d rx_m289 79 L [.int x] (rz_mk h ι, w) = some (.inl (some (.int x)), (rz_mk h ι, w)) := rz_reti rfl rfl rfl
theorem e289 : rz_f Z (d + 1) 289 [.int s0] σ = rg Z d rx_m289 0 [some (.int s0), none] [] σ := rz_f_eq rfl (Nat.le_of_ble_eq_true rfl)
theorem g290_0 : rg Z d rx_m290 0 [some (.int x)] S (rz_mk h ι, w) = rg Z d rx_m290 1 [some (.int x)] (.int x :: S) (rz_mk h ι, w) := rz_s1 fun _ => rfl
theorem g290_1 : rg Z d rx_m290 1 [some (.int x)] S (rz_mk h ι, w) = rg Z d rx_m290 2 [some (.int x)] (.int x :: S) (rz_mk h ι, w) := rz_s1 fun _ => rfl
theorem g290_2 : rg Z d rx_m290 2 L S (rz_mk h ι, w) = rg Z d rx_m290 3 L (.int 1 :: S) (rz_mk h ι, w) := rz_s1 fun _ => rfl
theorem g290_3 : rg Z d rx_m290 3 L (.int y :: .int x :: S) (rz_mk h ι, w) = rg Z d rx_m290 4 L (.int ((x.toUInt32 >>> (y.toUInt32 &&& Int32.toUInt32 31)).toInt32) :: S) (rz_mk h ι, w) := rz_s1 fun _ => rfl
theorem g290_4 : rg Z d rx_m290 4 L S (rz_mk h ι, w) = rg Z d rx_m290 7 L (.int 1431655765 :: S) (rz_mk h ι, w) := rz_s1 fun _ => rfl
theorem g290_7 : rg Z d rx_m290 7 L (.int y :: .int x :: S) (rz_mk h ι, w) = rg Z d rx_m290 8 L (.int (x &&& y) :: S) (rz_mk h ι, w) := rz_s1 fun _ => rfl
theorem g290_8 : rg Z d rx_m290 8 L (.int y :: .int x :: S) (rz_mk h ι, w) = rg Z d rx_m290 9 L (.int (x - y) :: S) (rz_mk h ι, w) := rz_s1 fun _ => rfl
theorem g290_9 : rg Z d rx_m290 9 [l0] (.int x :: S) (rz_mk h ι, w) = rg Z d rx_m290 10 [some (.int x)] S (rz_mk h ι, w) := rz_s1 fun _ => rfl
theorem g290_10 : rg Z d rx_m290 10 [some (.int x)] S (rz_mk h ι, w) = rg Z d rx_m290 11 [some (.int x)] (.int x :: S) (rz_mk h ι, w) := rz_s1 fun _ => rfl
theorem g290_11 : rg Z d rx_m290 11 L S (rz_mk h ι, w) = rg Z d rx_m290 14 L (.int 858993459 :: S) (rz_mk h ι, w) := rz_s1 fun _ => rfl
theorem g290_14 : rg Z d rx_m290 14 L (.int y :: .int x :: S) (rz_mk h ι, w) = rg Z d rx_m290 15 L (.int (x &&& y) :: S) (rz_mk h ι, w) := rz_s1 fun _ => rfl
theorem g290_15 : rg Z d rx_m290 15 [some (.int x)] S (rz_mk h ι, w) = rg Z d rx_m290 16 [some (.int x)] (.int x :: S) (rz_mk h ι, w) := rz_s1 fun _ => rfl
theorem g290_16 : rg Z d rx_m290 16 L S (rz_mk h ι, w) = rg Z d rx_m290 17 L (.int 2 :: S) (rz_mk h ι, w) := rz_s1 fun _ => rfl
theorem g290_17 : rg Z d rx_m290 17 L (.int y :: .int x :: S) (rz_mk h ι, w) = rg Z d rx_m290 18 L (.int ((x.toUInt32 >>> (y.toUInt32 &&& Int32.toUInt32 31)).toInt32) :: S) (rz_mk h ι, w) := rz_s1 fun _ => rfl
theorem g290_18 : rg Z d rx_m290 18 L S (rz_mk h ι, w) = rg Z d rx_m290 21 L (.int 858993459 :: S) (rz_mk h ι, w) := rz_s1 fun _ => rfl
theorem g290_21 : rg Z d rx_m290 21 L (.int y :: .int x :: S) (rz_mk h ι, w) = rg Z d rx_m290 22 L (.int (x &&& y) :: S) (rz_mk h ι, w) := rz_s1 fun _ => rfl
theorem g290_22 : rg Z d rx_m290 22 L (.int y :: .int x :: S) (rz_mk h ι, w) = rg Z d rx_m290 23 L (.int (x + y) :: S) (rz_mk h ι, w) := rz_s1 fun _ => rfl
theorem g290_23 : rg Z d rx_m290 23 [l0] (.int x :: S) (rz_mk h ι, w) = rg Z d rx_m290 24 [some (.int x)] S (rz_mk h ι, w) := rz_s1 fun _ => rfl
theorem g290_24 : rg Z d rx_m290 24 [some (.int x)] S (rz_mk h ι, w) = rg Z d rx_m290 25 [some (.int x)] (.int x :: S) (rz_mk h ι, w) := rz_s1 fun _ => rfl
theorem g290_25 : rg Z d rx_m290 25 [some (.int x)] S (rz_mk h ι, w) = rg Z d rx_m290 26 [some (.int x)] (.int x :: S) (rz_mk h ι, w) := rz_s1 fun _ => rfl
theorem g290_26 : rg Z d rx_m290 26 L S (rz_mk h ι, w) = rg Z d rx_m290 27 L (.int 4 :: S) (rz_mk h ι, w) := rz_s1 fun _ => rfl
theorem g290_27 : rg Z d rx_m290 27 L (.int y :: .int x :: S) (rz_mk h ι, w) = rg Z d rx_m290 28 L (.int ((x.toUInt32 >>> (y.toUInt32 &&& Int32.toUInt32 31)).toInt32) :: S) (rz_mk h ι, w) := rz_s1 fun _ => rfl
theorem g290_28 : rg Z d rx_m290 28 L (.int y :: .int x :: S) (rz_mk h ι, w) = rg Z d rx_m290 29 L (.int (x + y) :: S) (rz_mk h ι, w) := rz_s1 fun _ => rfl
theorem g290_29 : rg Z d rx_m290 29 L S (rz_mk h ι, w) = rg Z d rx_m290 32 L (.int 252645135 :: S) (rz_mk h ι, w) := rz_s1 fun _ => rfl
theorem g290_32 : rg Z d rx_m290 32 L (.int y :: .int x :: S) (rz_mk h ι, w) = rg Z d rx_m290 33 L (.int (x &&& y) :: S) (rz_mk h ι, w) := rz_s1 fun _ => rfl
theorem g290_33 : rg Z d rx_m290 33 [l0] (.int x :: S) (rz_mk h ι, w) = rg Z d rx_m290 34 [some (.int x)] S (rz_mk h ι, w) := rz_s1 fun _ => rfl
theorem g290_34 : rg Z d rx_m290 34 [some (.int x)] S (rz_mk h ι, w) = rg Z d rx_m290 35 [some (.int x)] (.int x :: S) (rz_mk h ι, w) := rz_s1 fun _ => rfl
theorem g290_35 : rg Z d rx_m290 35 [some (.int x)] S (rz_mk h ι, w) = rg Z d rx_m290 36 [some (.int x)] (.int x :: S) (rz_mk h ι, w) := rz_s1 fun _ => rfl
theorem g290_36 : rg Z d rx_m290 36 L S (rz_mk h ι, w) = rg Z d rx_m290 38 L (.int 8 :: S) (rz_mk h ι, w) := rz_s1 fun _ => rfl
theorem g290_38 : rg Z d rx_m290 38 L (.int y :: .int x :: S) (rz_mk h ι, w) = rg Z d rx_m290 39 L (.int ((x.toUInt32 >>> (y.toUInt32 &&& Int32.toUInt32 31)).toInt32) :: S) (rz_mk h ι, w) := rz_s1 fun _ => rfl
theorem g290_39 : rg Z d rx_m290 39 L (.int y :: .int x :: S) (rz_mk h ι, w) = rg Z d rx_m290 40 L (.int (x + y) :: S) (rz_mk h ι, w) := rz_s1 fun _ => rfl
theorem g290_40 : rg Z d rx_m290 40 [l0] (.int x :: S) (rz_mk h ι, w) = rg Z d rx_m290 41 [some (.int x)] S (rz_mk h ι, w) := rz_s1 fun _ => rfl
theorem g290_41 : rg Z d rx_m290 41 [some (.int x)] S (rz_mk h ι, w) = rg Z d rx_m290 42 [some (.int x)] (.int x :: S) (rz_mk h ι, w) := rz_s1 fun _ => rfl
theorem g290_42 : rg Z d rx_m290 42 [some (.int x)] S (rz_mk h ι, w) = rg Z d rx_m290 43 [some (.int x)] (.int x :: S) (rz_mk h ι, w) := rz_s1 fun _ => rfl
theorem g290_43 : rg Z d rx_m290 43 L S (rz_mk h ι, w) = rg Z d rx_m290 45 L (.int 16 :: S) (rz_mk h ι, w) := rz_s1 fun _ => rfl
theorem g290_45 : rg Z d rx_m290 45 L (.int y :: .int x :: S) (rz_mk h ι, w) = rg Z d rx_m290 46 L (.int ((x.toUInt32 >>> (y.toUInt32 &&& Int32.toUInt32 31)).toInt32) :: S) (rz_mk h ι, w) := rz_s1 fun _ => rfl
theorem g290_46 : rg Z d rx_m290 46 L (.int y :: .int x :: S) (rz_mk h ι, w) = rg Z d rx_m290 47 L (.int (x + y) :: S) (rz_mk h ι, w) := rz_s1 fun _ => rfl
theorem g290_47 : rg Z d rx_m290 47 [l0] (.int x :: S) (rz_mk h ι, w) = rg Z d rx_m290 48 [some (.int x)] S (rz_mk h ι, w) := rz_s1 fun _ => rfl
theorem g290_48 : rg Z d rx_m290 48 [some (.int x)] S (rz_mk h ι, w) = rg Z d rx_m290 49 [some (.int x)] (.int x :: S) (rz_mk h ι, w) := rz_s1 fun _ => rfl
theorem g290_49 : rg Z d rx_m290 49 L S (rz_mk h ι, w) = rg Z d rx_m290 51 L (.int 63 :: S) (rz_mk h ι, w) := rz_s1 fun _ => rfl
theorem g290_51 : rg Z d rx_m290 51 L (.int y :: .int x :: S) (rz_mk h ι, w) = rg Z d rx_m290 52 L (.int (x &&& y) :: S) (rz_mk h ι, w) := rz_s1 fun _ => rfl
theorem g290_52 : rg Z d rx_m290 52 L [.int x] (rz_mk h ι, w) = some (.inl (some (.int x)), (rz_mk h ι, w)) := rz_reti rfl rfl rfl
theorem e290 : rz_f Z (d + 1) 290 [.int s0] σ = rg Z d rx_m290 0 [some (.int s0)] [] σ := rz_f_eq rfl (Nat.le_of_ble_eq_true rfl)
theorem g291_0 : rg Z d rx_m291 0 [some (.long q), l1, l2] S (rz_mk h ι, w) = rg Z d rx_m291 1 [some (.long q), l1, l2] (.long q :: S) (rz_mk h ι, w) := rz_s1 fun _ => rfl
theorem g291_1 : rg Z d rx_m291 1 L (.long q :: S) (rz_mk h ι, w) = rg Z d rx_m291 2 L (.int q.toInt32 :: S) (rz_mk h ι, w) := rz_s1 fun _ => rfl
theorem g291_2 : rg Z d rx_m291 2 [l0, none, l2] (.int x :: S) (rz_mk h ι, w) = rg Z d rx_m291 3 [l0, none, some (.int x)] S (rz_mk h ι, w) := rz_s1 fun _ => rfl
theorem g291_3 : rg Z d rx_m291 3 [l0, l1, some (.int x)] S (rz_mk h ι, w) = rg Z d rx_m291 4 [l0, l1, some (.int x)] (.int x :: S) (rz_mk h ι, w) := rz_s1 fun _ => rfl
theorem g291_4 : rg Z d rx_m291 4 L (.int x :: S) (rz_mk h ι, w) = if x = 0 then rg Z d rx_m291 7 L S (rz_mk h ι, w) else rg Z d rx_m291 21 L S (rz_mk h ι, w) := rz_if1 (pc := 4) (t := 21) (off := 17) (cc := .ne) (by decide) rfl
theorem g291_7 : rg Z d rx_m291 7 L S (rz_mk h ι, w) = rg Z d rx_m291 9 L (.int 32 :: S) (rz_mk h ι, w) := rz_s1 fun _ => rfl
theorem g291_9 : rg Z d rx_m291 9 [some (.long q), l1, l2] S (rz_mk h ι, w) = rg Z d rx_m291 10 [some (.long q), l1, l2] (.long q :: S) (rz_mk h ι, w) := rz_s1 fun _ => rfl
theorem g291_10 : rg Z d rx_m291 10 L S (rz_mk h ι, w) = rg Z d rx_m291 12 L (.int 32 :: S) (rz_mk h ι, w) := rz_s1 fun _ => rfl
theorem g291_12 : rg Z d rx_m291 12 L (.int x :: .long p :: S) (rz_mk h ι, w) = rg Z d rx_m291 13 L (.long ((p.toUInt64 >>> (x.toInt64.toUInt64 &&& Int64.toUInt64 63)).toInt64) :: S) (rz_mk h ι, w) := rz_s1 fun _ => rfl
theorem g291_13 : rg Z d rx_m291 13 L (.long q :: S) (rz_mk h ι, w) = rg Z d rx_m291 14 L (.int q.toInt32 :: S) (rz_mk h ι, w) := rz_s1 fun _ => rfl
theorem g291_14 : rg Z d rx_m291 14 L (v1 :: [.int s0]) (rz_mk h ι, w) = rz_k true (rz_f Z d 289 [v1] (rz_mk h ι, w)) (fun v σ' => rg Z d rx_m291 17 L (v.toList ++ [.int s0]) σ') := rz_cs (pc := 14) (n := 1) (mi := 289) (S := v1 :: [.int s0]) (rest := [.int s0]) rfl rfl (Nat.le_of_ble_eq_true rfl) (Nat.le_of_ble_eq_true rfl)
theorem g291_17 : rg Z d rx_m291 17 L (.int y :: .int x :: S) (rz_mk h ι, w) = rg Z d rx_m291 18 L (.int (x + y) :: S) (rz_mk h ι, w) := rz_s1 fun _ => rfl
theorem g291_18 : rg Z d rx_m291 18 L S (rz_mk h ι, w) = rg Z d rx_m291 25 L S (rz_mk h ι, w) := rz_s1 fun _ => rfl
theorem g291_21 : rg Z d rx_m291 21 [l0, l1, some (.int x)] S (rz_mk h ι, w) = rg Z d rx_m291 22 [l0, l1, some (.int x)] (.int x :: S) (rz_mk h ι, w) := rz_s1 fun _ => rfl
theorem g291_22 : rg Z d rx_m291 22 L (v1 :: []) (rz_mk h ι, w) = rz_k true (rz_f Z d 289 [v1] (rz_mk h ι, w)) (fun v σ' => rg Z d rx_m291 25 L (v.toList ++ []) σ') := rz_cs (pc := 22) (n := 1) (mi := 289) (S := v1 :: []) (rest := []) rfl rfl (Nat.le_of_ble_eq_true rfl) (Nat.le_of_ble_eq_true rfl)
theorem g291_25 : rg Z d rx_m291 25 L [.int x] (rz_mk h ι, w) = some (.inl (some (.int x)), (rz_mk h ι, w)) := rz_reti rfl rfl rfl
theorem e291 : rz_f Z (d + 1) 291 [.long q0] σ = rg Z d rx_m291 0 [some (.long q0), none, none] [] σ := rz_f_eq rfl (Nat.le_of_ble_eq_true rfl)
theorem g292_0 : rg Z d rx_m292 0 [some (.ref a)] S (rz_mk h ι, w) = rg Z d rx_m292 1 [some (.ref a)] (.ref a :: S) (rz_mk h ι, w) := rz_s1 fun _ => rfl
theorem g292_1 (c : rz_ar h a 9) : rg Z d rx_m292 1 L (.ref a :: S) (rz_mk h ι, w) = rg Z d rx_m292 4 L (.ref (rz_ln h a) :: S) (rz_mk h ι, w) := rz_sval rfl c
theorem g292_4 (c : rz_ar h a 8) : rg Z d rx_m292 4 L (.ref a :: S) (rz_mk h ι, w) = rg Z d rx_m292 5 L (.int (Int32.ofNat (rz_ln h a)) :: S) (rz_mk h ι, w) := rz_alen (by decide) rfl c
theorem g292_5 : rg Z d rx_m292 5 [some (.ref a)] S (rz_mk h ι, w) = rg Z d rx_m292 6 [some (.ref a)] (.ref a :: S) (rz_mk h ι, w) := rz_s1 fun _ => rfl
theorem g292_6 (c : rz_ar h a 9) : rg Z d rx_m292 6 L (.ref a :: [.int s0]) (rz_mk h ι, w) = rz_k true (rz_f Z d 294 [.ref a] (rz_mk h ι, w)) (fun v σ' => rg Z d rx_m292 9 L (v.toList ++ [.int s0]) σ') := rz_cvs (pc := 6) (n := 0) (mi := 294) (S := .ref a :: [.int s0]) (rest := [.int s0]) rfl rfl (Nat.le_of_ble_eq_true rfl) (Nat.le_of_ble_eq_true rfl) c
theorem g292_9 : rg Z d rx_m292 9 L (.int y :: .int x :: S) (rz_mk h ι, w) = rg Z d rx_m292 10 L (.int (x >>> (y &&& 31)) :: S) (rz_mk h ι, w) := rz_s1 fun _ => rfl
theorem g292_10 : rg Z d rx_m292 10 L [.int x] (rz_mk h ι, w) = some (.inl (some (.int x)), (rz_mk h ι, w)) := rz_reti rfl rfl rfl
theorem e292 : rz_f Z (d + 1) 292 [.ref t0] σ = rg Z d rx_m292 0 [some (.ref t0)] [] σ := rz_f_eq rfl (Nat.le_of_ble_eq_true rfl)
theorem g293_0 : rg Z d rx_m293 0 [some (.ref a), l1] S (rz_mk h ι, w) = rg Z d rx_m293 1 [some (.ref a), l1] (.ref a :: S) (rz_mk h ι, w) := rz_s1 fun _ => rfl
theorem g293_1 (c : rz_ar h a 9) : rg Z d rx_m293 1 L (.ref a :: []) (rz_mk h ι, w) = rz_k true (rz_f Z d 295 [.ref a] (rz_mk h ι, w)) (fun v σ' => rg Z d rx_m293 4 L (v.toList ++ []) σ') := rz_cvs (pc := 1) (n := 0) (mi := 295) (S := .ref a :: []) (rest := []) rfl rfl (Nat.le_of_ble_eq_true rfl) (Nat.le_of_ble_eq_true rfl) c
theorem g293_4 : rg Z d rx_m293 4 L (.int x :: S) (rz_mk h ι, w) = if x = 0 then rg Z d rx_m293 16 L S (rz_mk h ι, w) else rg Z d rx_m293 7 L S (rz_mk h ι, w) := rz_if1 (pc := 4) (t := 16) (off := 12) (cc := .eq) (by decide) rfl
theorem g293_7 : rg Z d rx_m293 7 [some (.ref a), l1] S (rz_mk h ι, w) = rg Z d rx_m293 8 [some (.ref a), l1] (.ref a :: S) (rz_mk h ι, w) := rz_s1 fun _ => rfl
theorem g293_8 (c : rz_ar h a 9) : rg Z d rx_m293 8 L (.ref a :: S) (rz_mk h ι, w) = rg Z d rx_m293 11 L (.ref (rz_ln h a) :: S) (rz_mk h ι, w) := rz_sval rfl c
theorem g293_11 : rg Z d rx_m293 11 [l0, some (.int x)] S (rz_mk h ι, w) = rg Z d rx_m293 12 [l0, some (.int x)] (.int x :: S) (rz_mk h ι, w) := rz_s1 fun _ => rfl
theorem g293_12 : rg Z d rx_m293 12 L (v2 :: v1 :: []) (rz_mk h ι, w) = rz_k true (rz_f Z d 297 [v1, v2] (rz_mk h ι, w)) (fun v σ' => rg Z d rx_m293 15 L (v.toList ++ []) σ') := rz_cs (pc := 12) (n := 2) (mi := 297) (S := v2 :: v1 :: []) (rest := []) rfl rfl (Nat.le_of_ble_eq_true rfl) (Nat.le_of_ble_eq_true rfl)
theorem g293_15 (c : narrow .char (.int x) = .int x) : rg Z d rx_m293 15 L [.int x] (rz_mk h ι, w) = some (.inl (some (.int x)), (rz_mk h ι, w)) := rz_reti rfl rfl c
theorem g293_16 : rg Z d rx_m293 16 [some (.ref a), l1] S (rz_mk h ι, w) = rg Z d rx_m293 17 [some (.ref a), l1] (.ref a :: S) (rz_mk h ι, w) := rz_s1 fun _ => rfl
theorem g293_17 (c : rz_ar h a 9) : rg Z d rx_m293 17 L (.ref a :: S) (rz_mk h ι, w) = rg Z d rx_m293 20 L (.ref (rz_ln h a) :: S) (rz_mk h ι, w) := rz_sval rfl c
theorem g293_20 : rg Z d rx_m293 20 [l0, some (.int x)] S (rz_mk h ι, w) = rg Z d rx_m293 21 [l0, some (.int x)] (.int x :: S) (rz_mk h ι, w) := rz_s1 fun _ => rfl
theorem e293 : rz_f Z (d + 1) 293 [.ref t0, .int s1] σ = rg Z d rx_m293 0 [some (.ref t0), some (.int s1)] [] σ := rz_f_eq rfl (Nat.le_of_ble_eq_true rfl)
theorem g294_0 : rg Z d rx_m294 0 L S (rz_mk h ι, w) = rg Z d rx_m294 3 L (.int 1 :: S) (rz_mk h ι, w) := rz_s1 fun _ => rfl
theorem g294_3 : rg Z d rx_m294 3 L (.int x :: S) (rz_mk h ι, w) = if x = 0 then rg Z d rx_m294 13 L S (rz_mk h ι, w) else rg Z d rx_m294 6 L S (rz_mk h ι, w) := rz_if1 (pc := 3) (t := 13) (off := 10) (cc := .eq) (by decide) rfl
theorem g294_6 : rg Z d rx_m294 6 [some (.ref a)] S (rz_mk h ι, w) = rg Z d rx_m294 7 [some (.ref a)] (.ref a :: S) (rz_mk h ι, w) := rz_s1 fun _ => rfl
theorem g294_7 (c : rz_ar h a 9) : rg Z d rx_m294 7 L (.ref a :: S) (rz_mk h ι, w) = rg Z d rx_m294 10 L (.int 0 :: S) (rz_mk h ι, w) := rz_scod rfl c
theorem g294_10 : rg Z d rx_m294 10 L S (rz_mk h ι, w) = rg Z d rx_m294 14 L S (rz_mk h ι, w) := rz_s1 fun _ => rfl
theorem g294_13 : rg Z d rx_m294 13 L S (rz_mk h ι, w) = rg Z d rx_m294 14 L (.int 1 :: S) (rz_mk h ι, w) := rz_s1 fun _ => rfl
theorem g294_14 (c : narrow .byte (.int x) = .int x) : rg Z d rx_m294 14 L [.int x] (rz_mk h ι, w) = some (.inl (some (.int x)), (rz_mk h ι, w)) := rz_reti rfl rfl c
theorem e294 : rz_f Z (d + 1) 294 [.ref t0] σ = rg Z d rx_m294 0 [some (.ref t0)] [] σ := rz_f_eq rfl (Nat.le_of_ble_eq_true rfl)
theorem g295_0 : rg Z d rx_m295 0 L S (rz_mk h ι, w) = rg Z d rx_m295 3 L (.int 1 :: S) (rz_mk h ι, w) := rz_s1 fun _ => rfl
theorem g295_3 : rg Z d rx_m295 3 L (.int x :: S) (rz_mk h ι, w) = if x = 0 then rg Z d rx_m295 17 L S (rz_mk h ι, w) else rg Z d rx_m295 6 L S (rz_mk h ι, w) := rz_if1 (pc := 3) (t := 17) (off := 14) (cc := .eq) (by decide) rfl
theorem g295_6 : rg Z d rx_m295 6 [some (.ref a)] S (rz_mk h ι, w) = rg Z d rx_m295 7 [some (.ref a)] (.ref a :: S) (rz_mk h ι, w) := rz_s1 fun _ => rfl
theorem g295_7 (c : rz_ar h a 9) : rg Z d rx_m295 7 L (.ref a :: S) (rz_mk h ι, w) = rg Z d rx_m295 10 L (.int 0 :: S) (rz_mk h ι, w) := rz_scod rfl c
theorem g295_10 : rg Z d rx_m295 10 L (.int x :: S) (rz_mk h ι, w) = if x = 0 then rg Z d rx_m295 13 L S (rz_mk h ι, w) else rg Z d rx_m295 17 L S (rz_mk h ι, w) := rz_if1 (pc := 10) (t := 17) (off := 7) (cc := .ne) (by decide) rfl
theorem g295_13 : rg Z d rx_m295 13 L S (rz_mk h ι, w) = rg Z d rx_m295 14 L (.int 1 :: S) (rz_mk h ι, w) := rz_s1 fun _ => rfl
theorem g295_14 : rg Z d rx_m295 14 L S (rz_mk h ι, w) = rg Z d rx_m295 18 L S (rz_mk h ι, w) := rz_s1 fun _ => rfl
theorem g295_17 : rg Z d rx_m295 17 L S (rz_mk h ι, w) = rg Z d rx_m295 18 L (.int 0 :: S) (rz_mk h ι, w) := rz_s1 fun _ => rfl
theorem g295_18 (c : narrow .boolean (.int x) = .int x) : rg Z d rx_m295 18 L [.int x] (rz_mk h ι, w) = some (.inl (some (.int x)), (rz_mk h ι, w)) := rz_reti rfl rfl c
theorem e295 : rz_f Z (d + 1) 295 [.ref t0] σ = rg Z d rx_m295 0 [some (.ref t0)] [] σ := rz_f_eq rfl (Nat.le_of_ble_eq_true rfl)
theorem g296_0 : rg Z d rx_m296 0 [some (.int x), l1] S (rz_mk h ι, w) = rg Z d rx_m296 1 [some (.int x), l1] (.int x :: S) (rz_mk h ι, w) := rz_s1 fun _ => rfl
theorem g296_1 : rg Z d rx_m296 1 [l0, some (.int x)] S (rz_mk h ι, w) = rg Z d rx_m296 2 [l0, some (.int x)] (.int x :: S) (rz_mk h ι, w) := rz_s1 fun _ => rfl
theorem g296_2 : rg Z d rx_m296 2 L S (rz_mk h ι, w) = rg Z d rx_m296 5 L ((if Z.2.2.2 40 = 0 then .null else .ref (Z.2.2.2 41)) :: S) (rz_mk h ι, w) := rz_s1 fun _ => rfl
theorem g296_5 : rg Z d rx_m296 5 L (v3 :: v2 :: v1 :: []) (rz_mk h ι, w) = rz_k true (rz_f Z d 298 [v1, v2, v3] (rz_mk h ι, w)) (fun v σ' => rg Z d rx_m296 8 L (v.toList ++ []) σ') := rz_cs (pc := 5) (n := 3) (mi := 298) (S := v3 :: v2 :: v1 :: []) (rest := []) rfl rfl (Nat.le_of_ble_eq_true rfl) (Nat.le_of_ble_eq_true rfl)
theorem g296_8 : rg Z d rx_m296 8 L (.int x :: S) (rz_mk h ι, w) = rg Z d rx_m296 9 L S (rz_mk h ι, w) := rz_s1 fun _ => rfl
theorem g296_9 : rg Z d rx_m296 9 L [] (rz_mk h ι, w) = some (.inl none, (rz_mk h ι, w)) := rz_r1 fun _ => rfl
theorem e296 : rz_f Z (d + 1) 296 [.int s0, .int s1] σ = rg Z d rx_m296 0 [some (.int s0), some (.int s1)] [] σ := rz_f_eq rfl (Nat.le_of_ble_eq_true rfl)
theorem g297_0 : rg Z d rx_m297 0 [l0, some (.int x)] S (rz_mk h ι, w) = rg Z d rx_m297 1 [l0, some (.int x)] (.int x :: S) (rz_mk h ι, w) := rz_s1 fun _ => rfl
theorem g297_1 : rg Z d rx_m297 1 [some (.ref a), l1] S (rz_mk h ι, w) = rg Z d rx_m297 2 [some (.ref a), l1] (.ref a :: S) (rz_mk h ι, w) := rz_s1 fun _ => rfl
theorem g297_2 (c : rz_ar h a 8) : rg Z d rx_m297 2 L (.ref a :: S) (rz_mk h ι, w) = rg Z d rx_m297 3 L (.int (Int32.ofNat (rz_ln h a)) :: S) (rz_mk h ι, w) := rz_alen (by decide) rfl c
theorem g297_3 : rg Z d rx_m297 3 L (v2 :: v1 :: []) (rz_mk h ι, w) = rz_k true (rz_f Z d 296 [v1, v2] (rz_mk h ι, w)) (fun v σ' => rg Z d rx_m297 6 L (v.toList ++ []) σ') := rz_cs (pc := 3) (n := 2) (mi := 296) (S := v2 :: v1 :: []) (rest := []) rfl rfl (Nat.le_of_ble_eq_true rfl) (Nat.le_of_ble_eq_true rfl)
theorem g297_6 : rg Z d rx_m297 6 [some (.ref a), l1] S (rz_mk h ι, w) = rg Z d rx_m297 7 [some (.ref a), l1] (.ref a :: S) (rz_mk h ι, w) := rz_s1 fun _ => rfl
theorem g297_7 : rg Z d rx_m297 7 [l0, some (.int x)] S (rz_mk h ι, w) = rg Z d rx_m297 8 [l0, some (.int x)] (.int x :: S) (rz_mk h ι, w) := rz_s1 fun _ => rfl
theorem g297_8 (c : rz_ar h a 8) (hi : rz_ix x (rz_ln h a)) : rg Z d rx_m297 8 L (.int x :: .ref a :: S) (rz_mk h ι, w) = rg Z d rx_m297 9 L (rz_el h a x.toNatClampNeg :: S) (rz_mk h ι, w) := rz_bald rfl c hi
theorem g297_9 : rg Z d rx_m297 9 L S (rz_mk h ι, w) = rg Z d rx_m297 12 L (.int 255 :: S) (rz_mk h ι, w) := rz_s1 fun _ => rfl
theorem g297_12 : rg Z d rx_m297 12 L (.int y :: .int x :: S) (rz_mk h ι, w) = rg Z d rx_m297 13 L (.int (x &&& y) :: S) (rz_mk h ι, w) := rz_s1 fun _ => rfl
theorem g297_13 : rg Z d rx_m297 13 L (.int x :: S) (rz_mk h ι, w) = rg Z d rx_m297 14 L (.int (x.toUInt32 % 65536).toInt32 :: S) (rz_mk h ι, w) := rz_s1 fun _ => rfl
theorem g297_14 (c : narrow .char (.int x) = .int x) : rg Z d rx_m297 14 L [.int x] (rz_mk h ι, w) = some (.inl (some (.int x)), (rz_mk h ι, w)) := rz_reti rfl rfl c
theorem e297 : rz_f Z (d + 1) 297 [.ref t0, .int s1] σ = rg Z d rx_m297 0 [some (.ref t0), some (.int s1)] [] σ := rz_f_eq rfl (Nat.le_of_ble_eq_true rfl)
theorem g298_0 : rg Z d rx_m298 0 [some (.int x), l1, l2] S (rz_mk h ι, w) = rg Z d rx_m298 1 [some (.int x), l1, l2] (.int x :: S) (rz_mk h ι, w) := rz_s1 fun _ => rfl
theorem g298_1 : rg Z d rx_m298 1 L (.int x :: S) (rz_mk h ι, w) = if x < 0 then rg Z d rx_m298 9 L S (rz_mk h ι, w) else rg Z d rx_m298 4 L S (rz_mk h ι, w) := rz_if1 (pc := 1) (t := 9) (off := 8) (cc := .lt) (by decide) rfl
theorem g298_4 : rg Z d rx_m298 4 [some (.int x), l1, l2] S (rz_mk h ι, w) = rg Z d rx_m298 5 [some (.int x), l1, l2] (.int x :: S) (rz_mk h ι, w) := rz_s1 fun _ => rfl
theorem g298_5 : rg Z d rx_m298 5 [l0, some (.int x), l2] S (rz_mk h ι, w) = rg Z d rx_m298 6 [l0, some (.int x), l2] (.int x :: S) (rz_mk h ι, w) := rz_s1 fun _ => rfl
theorem g298_6 : rg Z d rx_m298 6 L (.int y :: .int x :: S) (rz_mk h ι, w) = if x < y then rg Z d rx_m298 16 L S (rz_mk h ι, w) else rg Z d rx_m298 9 L S (rz_mk h ι, w) := rz_if2 (pc := 6) (t := 16) (off := 10) (cc := .lt) (by decide) rfl
theorem g298_9 : rg Z d rx_m298 9 [l0, l1, some (.ref a)] S (rz_mk h ι, w) = rg Z d rx_m298 10 [l0, l1, some (.ref a)] (.ref a :: S) (rz_mk h ι, w) := rz_s1 fun _ => rfl
theorem g298_9n : rg Z d rx_m298 9 [l0, l1, some .null] S (rz_mk h ι, w) = rg Z d rx_m298 10 [l0, l1, some .null] (.null :: S) (rz_mk h ι, w) := rz_s1 fun _ => rfl
theorem g298_10 : rg Z d rx_m298 10 [some (.int x), l1, l2] S (rz_mk h ι, w) = rg Z d rx_m298 11 [some (.int x), l1, l2] (.int x :: S) (rz_mk h ι, w) := rz_s1 fun _ => rfl
theorem g298_11 : rg Z d rx_m298 11 [l0, some (.int x), l2] S (rz_mk h ι, w) = rg Z d rx_m298 12 [l0, some (.int x), l2] (.int x :: S) (rz_mk h ι, w) := rz_s1 fun _ => rfl
theorem g298_16 : rg Z d rx_m298 16 [some (.int x), l1, l2] S (rz_mk h ι, w) = rg Z d rx_m298 17 [some (.int x), l1, l2] (.int x :: S) (rz_mk h ι, w) := rz_s1 fun _ => rfl
theorem g298_17 : rg Z d rx_m298 17 L [.int x] (rz_mk h ι, w) = some (.inl (some (.int x)), (rz_mk h ι, w)) := rz_reti rfl rfl rfl
theorem e298 : rz_f Z (d + 1) 298 [.int s0, .int s1, .ref t2] σ = rg Z d rx_m298 0 [some (.int s0), some (.int s1), some (.ref t2)] [] σ := rz_f_eq rfl (Nat.le_of_ble_eq_true rfl)
theorem e298n : rz_f Z (d + 1) 298 [.int s0, .int s1, .null] σ = rg Z d rx_m298 0 [some (.int s0), some (.int s1), some .null] [] σ := rz_f_eq rfl (Nat.le_of_ble_eq_true rfl)
end RZG
