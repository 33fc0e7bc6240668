/-! each instruction, one step (written by program) -/
section RZG
variable {Z : rx_Z} {d : Nat} {S : List Value} {L : rx_L} {σ : rx_S} {h : Nat → Option rx_E} {ι : Nat → Nat → Int32} {w : Nat × Nat} {a b t0 t1 t2 t3 t4 t5 t6 t7 t8 : Nat} {x y z s0 s1 s2 s3 s4 s5 s6 s7 s8 s9 s10 : Int32} {p q q0 q1 q2 q3 : Int64} {v v1 v2 v3 v4 v5 v6 v7 v8 v9 v10 : Value} {l0 l1 l2 l3 l4 l5 l6 l7 l8 l9 l10 l11 l12 l13 l14 : Option Value}
theorem g244_0 : rg Z d rx_m244 0 [some (.ref a), l1, l2, l3, l4, l5, l6] S (rz_mk h ι, w) = rg Z d rx_m244 1 [some (.ref a), l1, l2, l3, l4, l5, l6] (.ref a :: S) (rz_mk h ι, w) := rz_s1 fun _ => rfl
theorem g244_1 : rg Z d rx_m244 1 L S (rz_mk h ι, w) = rg Z d rx_m244 2 L (.int 0 :: S) (rz_mk h ι, w) := rz_s1 fun _ => rfl
theorem g244_2 (c : rz_fI h a 12 0) (hz : Z.2.1 ≤ a) : rg Z d rx_m244 2 L (.int x :: .ref a :: S) (rz_mk h ι, w) = rg Z d rx_m244 5 L S (rz_mk h (rz_up ι a 0 x), w) := rz_pI rfl c hz
theorem g244_5 : rg Z d rx_m244 5 [some (.ref a), l1, l2, l3, l4, l5, l6] S (rz_mk h ι, w) = rg Z d rx_m244 6 [some (.ref a), l1, l2, l3, l4, l5, l6] (.ref a :: S) (rz_mk h ι, w) := rz_s1 fun _ => rfl
theorem g244_6 : rg Z d rx_m244 6 [some (.ref a), l1, l2, l3, l4, l5, l6] S (rz_mk h ι, w) = rg Z d rx_m244 7 [some (.ref a), l1, l2, l3, l4, l5, l6] (.ref a :: S) (rz_mk h ι, w) := rz_s1 fun _ => rfl
theorem g244_7 : rg Z d rx_m244 7 [l0, some (.int x), l2, l3, l4, l5, l6] S (rz_mk h ι, w) = rg Z d rx_m244 8 [l0, some (.int x), l2, l3, l4, l5, l6] (.int x :: S) (rz_mk h ι, w) := rz_s1 fun _ => rfl
theorem g244_8 (c : rz_oc h a 12) : rg Z d rx_m244 8 L (v1 :: .ref a :: [.ref t0]) (rz_mk h ι, w) = rz_k true (rz_f Z d 236 [.ref a, v1] (rz_mk h ι, w)) (fun v σ' => rg Z d rx_m244 11 L (v.toList ++ [.ref t0]) σ') := rz_cv (pc := 8) (n := 1) (mi := 236) (S := v1 :: .ref a :: [.ref t0]) (rest := [.ref t0]) rfl rfl (Nat.le_of_ble_eq_true rfl) (Nat.le_of_ble_eq_true rfl) c
theorem g244_11 : rg Z d rx_m244 11 L (.int x :: S) (rz_mk h ι, w) = if x = 0 then rg Z d rx_m244 14 L S (rz_mk h ι, w) else rg Z d rx_m244 18 L S (rz_mk h ι, w) := rz_if1 (pc := 11) (t := 18) (off := 7) (cc := .ne) (by decide) rfl
theorem g244_14 : rg Z d rx_m244 14 L S (rz_mk h ι, w) = rg Z d rx_m244 15 L (.int 1 :: S) (rz_mk h ι, w) := rz_s1 fun _ => rfl
theorem g244_15 : rg Z d rx_m244 15 L S (rz_mk h ι, w) = rg Z d rx_m244 19 L S (rz_mk h ι, w) := rz_s1 fun _ => rfl
theorem g244_18 : rg Z d rx_m244 18 L S (rz_mk h ι, w) = rg Z d rx_m244 19 L (.int 0 :: S) (rz_mk h ι, w) := rz_s1 fun _ => rfl
theorem g244_19 : rg Z d rx_m244 19 L S (rz_mk h ι, w) = rg Z d rx_m244 20 L (.int 1 :: S) (rz_mk h ι, w) := rz_s1 fun _ => rfl
theorem g244_20 : rg Z d rx_m244 20 L S (rz_mk h ι, w) = rg Z d rx_m244 21 L (.int 0 :: S) (rz_mk h ι, w) := rz_s1 fun _ => rfl
theorem g244_21 (c : rz_oc h a 12) : rg Z d rx_m244 21 L (v3 :: v2 :: v1 :: .ref a :: []) (rz_mk h ι, w) = rz_k true (rz_f Z d 174 [.ref a, v1, v2, v3] (rz_mk h ι, w)) (fun v σ' => rg Z d rx_m244 24 L (v.toList ++ []) σ') := rz_cv (pc := 21) (n := 3) (mi := 174) (S := v3 :: v2 :: v1 :: .ref a :: []) (rest := []) rfl rfl (Nat.le_of_ble_eq_true rfl) (Nat.le_of_ble_eq_true rfl) c
theorem g244_24 : rg Z d rx_m244 24 L (.int x :: S) (rz_mk h ι, w) = if x = 0 then rg Z d rx_m244 27 L S (rz_mk h ι, w) else rg Z d rx_m244 50 L S (rz_mk h ι, w) := rz_if1 (pc := 24) (t := 50) (off := 26) (cc := .ne) (by decide) rfl
theorem g244_27 : rg Z d rx_m244 27 [some (.ref a), l1, l2, l3, l4, l5, l6] S (rz_mk h ι, w) = rg Z d rx_m244 28 [some (.ref a), l1, l2, l3, l4, l5, l6] (.ref a :: S) (rz_mk h ι, w) := rz_s1 fun _ => rfl
theorem g244_28 : rg Z d rx_m244 28 [l0, l1, some (.int x), l3, l4, l5, l6] S (rz_mk h ι, w) = rg Z d rx_m244 29 [l0, l1, some (.int x), l3, l4, l5, l6] (.int x :: S) (rz_mk h ι, w) := rz_s1 fun _ => rfl
theorem g244_29 : rg Z d rx_m244 29 L S (rz_mk h ι, w) = rg Z d rx_m244 30 L (.int 0 :: S) (rz_mk h ι, w) := rz_s1 fun _ => rfl
theorem g244_30 : rg Z d rx_m244 30 L S (rz_mk h ι, w) = rg Z d rx_m244 31 L (.int 1 :: S) (rz_mk h ι, w) := rz_s1 fun _ => rfl
theorem g244_31 : rg Z d rx_m244 31 L (v3 :: v2 :: v1 :: [.ref t0]) (rz_mk h ι, w) = rz_k true (rz_f Z d 175 [v1, v2, v3] (rz_mk h ι, w)) (fun v σ' => rg Z d rx_m244 34 L (v.toList ++ [.ref t0]) σ') := rz_cs (pc := 31) (n := 3) (mi := 175) (S := v3 :: v2 :: v1 :: [.ref t0]) (rest := [.ref t0]) rfl rfl (Nat.le_of_ble_eq_true rfl) (Nat.le_of_ble_eq_true rfl)
theorem g244_34 : rg Z d rx_m244 34 L (.int x :: S) (rz_mk h ι, w) = if x = 0 then rg Z d rx_m244 37 L S (rz_mk h ι, w) else rg Z d rx_m244 41 L S (rz_mk h ι, w) := rz_if1 (pc := 34) (t := 41) (off := 7) (cc := .ne) (by decide) rfl
theorem g244_37 : rg Z d rx_m244 37 L S (rz_mk h ι, w) = rg Z d rx_m244 38 L (.int 1 :: S) (rz_mk h ι, w) := rz_s1 fun _ => rfl
theorem g244_38 : rg Z d rx_m244 38 L S (rz_mk h ι, w) = rg Z d rx_m244 42 L S (rz_mk h ι, w) := rz_s1 fun _ => rfl
theorem g244_41 : rg Z d rx_m244 41 L S (rz_mk h ι, w) = rg Z d rx_m244 42 L (.int 0 :: S) (rz_mk h ι, w) := rz_s1 fun _ => rfl
theorem g244_42 : rg Z d rx_m244 42 L S (rz_mk h ι, w) = rg Z d rx_m244 43 L (.int 2 :: S) (rz_mk h ι, w) := rz_s1 fun _ => rfl
theorem g244_43 : rg Z d rx_m244 43 L S (rz_mk h ι, w) = rg Z d rx_m244 44 L (.int 1 :: S) (rz_mk h ι, w) := rz_s1 fun _ => rfl
theorem g244_44 (c : rz_oc h a 12) : rg Z d rx_m244 44 L (v3 :: v2 :: v1 :: .ref a :: []) (rz_mk h ι, w) = rz_k true (rz_f Z d 174 [.ref a, v1, v2, v3] (rz_mk h ι, w)) (fun v σ' => rg Z d rx_m244 47 L (v.toList ++ []) σ') := rz_cv (pc := 44) (n := 3) (mi := 174) (S := v3 :: v2 :: v1 :: .ref a :: []) (rest := []) rfl rfl (Nat.le_of_ble_eq_true rfl) (Nat.le_of_ble_eq_true rfl) c
theorem g244_47 : rg Z d rx_m244 47 L (.int x :: S) (rz_mk h ι, w) = if x = 0 then rg Z d rx_m244 52 L S (rz_mk h ι, w) else rg Z d rx_m244 50 L S (rz_mk h ι, w) := rz_if1 (pc := 47) (t := 52) (off := 5) (cc := .eq) (by decide) rfl
theorem g244_50 : rg Z d rx_m244 50 L S (rz_mk h ι, w) = rg Z d rx_m244 51 L (.int 0 :: S) (rz_mk h ι, w) := rz_s1 fun _ => rfl
theorem g244_51 : rg Z d rx_m244 51 L [.int x] (rz_mk h ι, w) = some (.inl (some (.int x)), (rz_mk h ι, w)) := rz_reti rfl rfl rfl
theorem g244_52 : rg Z d rx_m244 52 L S (rz_mk h ι, w) = rg Z d rx_m244 53 L (.int (-1) :: S) (rz_mk h ι, w) := rz_s1 fun _ => rfl
theorem g244_53 : rg Z d rx_m244 53 [l0, l1, some (.int z), l3, l4, l5, l6] (.int x :: S) (rz_mk h ι, w) = rg Z d rx_m244 54 [l0, l1, some (.int z), some (.int x), l4, l5, l6] S (rz_mk h ι, w) := rz_s1 fun _ => rfl
theorem g244_54 : rg Z d rx_m244 54 L S (rz_mk h ι, w) = rg Z d rx_m244 55 L (.int (-1) :: S) (rz_mk h ι, w) := rz_s1 fun _ => rfl
theorem g244_55 : rg Z d rx_m244 55 [l0, l1, l2, some (.int z), l4, l5, l6] (.int x :: S) (rz_mk h ι, w) = rg Z d rx_m244 57 [l0, l1, l2, some (.int z), some (.int x), l5, l6] S (rz_mk h ι, w) := rz_s1 fun _ => rfl
theorem g244_57 : rg Z d rx_m244 57 L S (rz_mk h ι, w) = rg Z d rx_m244 58 L (.int 0 :: S) (rz_mk h ι, w) := rz_s1 fun _ => rfl
theorem g244_58 : rg Z d rx_m244 58 [l0, l1, l2, l3, some (.int z), l5, l6] (.int x :: S) (rz_mk h ι, w) = rg Z d rx_m244 60 [l0, l1, l2, l3, some (.int z), some (.int x), l6] S (rz_mk h ι, w) := rz_s1 fun _ => rfl
theorem g244_60 : rg Z d rx_m244 60 [l0, l1, l2, l3, l4, some (.int x), l6] S (rz_mk h ι, w) = rg Z d rx_m244 62 [l0, l1, l2, l3, l4, some (.int x), l6] (.int x :: S) (rz_mk h ι, w) := rz_s1 fun _ => rfl
theorem g244_62 : rg Z d rx_m244 62 L S (rz_mk h ι, w) = rg Z d rx_m244 65 L (.int 1000 :: S) (rz_mk h ι, w) := rz_s1 fun _ => rfl
theorem g244_65 : rg Z d rx_m244 65 L (.int y :: .int x :: S) (rz_mk h ι, w) = if x < y then rg Z d rx_m244 68 L S (rz_mk h ι, w) else rg Z d rx_m244 214 L S (rz_mk h ι, w) := rz_if2 (pc := 65) (t := 214) (off := 149) (cc := .ge) (by decide) rfl
theorem g244_68 : rg Z d rx_m244 68 [some (.ref a), l1, l2, l3, l4, l5, l6] S (rz_mk h ι, w) = rg Z d rx_m244 69 [some (.ref a), l1, l2, l3, l4, l5, l6] (.ref a :: S) (rz_mk h ι, w) := rz_s1 fun _ => rfl
theorem g244_69 (c : rz_fR h a 12 25) : rg Z d rx_m244 69 L (.ref a :: S) (rz_mk h ι, w) = rg Z d rx_m244 72 L (rz_rv h a 25 :: S) (rz_mk h ι, w) := rz_gR rfl (by decide) c
theorem g244_72 : rg Z d rx_m244 72 [l0, some (.int x), l2, l3, l4, l5, l6] S (rz_mk h ι, w) = rg Z d rx_m244 73 [l0, some (.int x), l2, l3, l4, l5, l6] (.int x :: S) (rz_mk h ι, w) := rz_s1 fun _ => rfl
theorem g244_73 : rg Z d rx_m244 73 L (v2 :: v1 :: []) (rz_mk h ι, w) = rz_k true (rz_f Z d 222 [v1, v2] (rz_mk h ι, w)) (fun v σ' => rg Z d rx_m244 76 L (v.toList ++ []) σ') := rz_cs (pc := 73) (n := 2) (mi := 222) (S := v2 :: v1 :: []) (rest := []) rfl rfl (Nat.le_of_ble_eq_true rfl) (Nat.le_of_ble_eq_true rfl)
theorem g244_76 : rg Z d rx_m244 76 L (.int x :: S) (rz_mk h ι, w) = if x = 0 then rg Z d rx_m244 214 L S (rz_mk h ι, w) else rg Z d rx_m244 79 L S (rz_mk h ι, w) := rz_if1 (pc := 76) (t := 214) (off := 138) (cc := .eq) (by decide) rfl
theorem g244_79 : rg Z d rx_m244 79 [some (.ref a), l1, l2, l3, l4, l5, l6] S (rz_mk h ι, w) = rg Z d rx_m244 80 [some (.ref a), l1, l2, l3, l4, l5, l6] (.ref a :: S) (rz_mk h ι, w) := rz_s1 fun _ => rfl
theorem g244_80 (c : rz_fR h a 12 25) : rg Z d rx_m244 80 L (.ref a :: S) (rz_mk h ι, w) = rg Z d rx_m244 83 L (rz_rv h a 25 :: S) (rz_mk h ι, w) := rz_gR rfl (by decide) c
theorem g244_83 : rg Z d rx_m244 83 L S (rz_mk h ι, w) = rg Z d rx_m244 85 L (.int 58 :: S) (rz_mk h ι, w) := rz_s1 fun _ => rfl
theorem g244_85 (c : rz_ar h a 0) (hi : rz_ix x (rz_ln h a)) : rg Z d rx_m244 85 L (.int x :: .ref a :: S) (rz_mk h ι, w) = rg Z d rx_m244 86 L (.int (ι a x.toNatClampNeg) :: S) (rz_mk h ι, w) := rz_iald rfl c hi
theorem g244_86 : rg Z d rx_m244 86 L S (rz_mk h ι, w) = rg Z d rx_m244 87 L (.int (-1) :: S) (rz_mk h ι, w) := rz_s1 fun _ => rfl
theorem g244_87 : rg Z d rx_m244 87 L (.int y :: .int x :: S) (rz_mk h ι, w) = if x = y then rg Z d rx_m244 214 L S (rz_mk h ι, w) else rg Z d rx_m244 90 L S (rz_mk h ι, w) := rz_if2 (pc := 87) (t := 214) (off := 127) (cc := .eq) (by decide) rfl
theorem g244_90 : rg Z d rx_m244 90 [some (.ref a), l1, l2, l3, l4, l5, l6] S (rz_mk h ι, w) = rg Z d rx_m244 91 [some (.ref a), l1, l2, l3, l4, l5, l6] (.ref a :: S) (rz_mk h ι, w) := rz_s1 fun _ => rfl
theorem g244_91 (c : rz_fR h a 12 25) : rg Z d rx_m244 91 L (.ref a :: S) (rz_mk h ι, w) = rg Z d rx_m244 94 L (rz_rv h a 25 :: S) (rz_mk h ι, w) := rz_gR rfl (by decide) c
theorem g244_94 : rg Z d rx_m244 94 L S (rz_mk h ι, w) = rg Z d rx_m244 96 L (.int 58 :: S) (rz_mk h ι, w) := rz_s1 fun _ => rfl
theorem g244_96 (c : rz_ar h a 0) (hi : rz_ix x (rz_ln h a)) : rg Z d rx_m244 96 L (.int x :: .ref a :: S) (rz_mk h ι, w) = rg Z d rx_m244 97 L (.int (ι a x.toNatClampNeg) :: S) (rz_mk h ι, w) := rz_iald rfl c hi
theorem g244_97 : rg Z d rx_m244 97 [l0, some (.int x), l2, l3, l4, l5, l6] S (rz_mk h ι, w) = rg Z d rx_m244 98 [l0, some (.int x), l2, l3, l4, l5, l6] (.int x :: S) (rz_mk h ι, w) := rz_s1 fun _ => rfl
theorem g244_98 : rg Z d rx_m244 98 L (.int y :: .int x :: S) (rz_mk h ι, w) = if x = y then rg Z d rx_m244 214 L S (rz_mk h ι, w) else rg Z d rx_m244 101 L S (rz_mk h ι, w) := rz_if2 (pc := 98) (t := 214) (off := 116) (cc := .eq) (by decide) rfl
theorem g244_101 : rg Z d rx_m244 101 [l0, l1, l2, l3, l4, some (.int x), l6] S (rz_mk h ι, w) = rg Z d rx_m244 103 [l0, l1, l2, l3, l4, some (.int x), l6] (.int x :: S) (rz_mk h ι, w) := rz_s1 fun _ => rfl
theorem g244_103 : rg Z d rx_m244 103 L S (rz_mk h ι, w) = rg Z d rx_m244 105 L (.int 100 :: S) (rz_mk h ι, w) := rz_s1 fun _ => rfl
theorem g244_105 : rg Z d rx_m244 105 L (.int 100 :: .int x :: S) (rz_mk h ι, w) = rg Z d rx_m244 106 L (.int (x / 100) :: S) (rz_mk h ι, w) := rz_div rfl (by decide)
theorem g244_106 : rg Z d rx_m244 106 [some (.ref a), l1, l2, l3, l4, l5, l6] S (rz_mk h ι, w) = rg Z d rx_m244 107 [some (.ref a), l1, l2, l3, l4, l5, l6] (.ref a :: S) (rz_mk h ι, w) := rz_s1 fun _ => rfl
theorem g244_107 (c : rz_fR h a 12 25) : rg Z d rx_m244 107 L (.ref a :: S) (rz_mk h ι, w) = rg Z d rx_m244 110 L (rz_rv h a 25 :: S) (rz_mk h ι, w) := rz_gR rfl (by decide) c
theorem g244_110 : rg Z d rx_m244 110 [l0, some (.int x), l2, l3, l4, l5, l6] S (rz_mk h ι, w) = rg Z d rx_m244 111 [l0, some (.int x), l2, l3, l4, l5, l6] (.int x :: S) (rz_mk h ι, w) := rz_s1 fun _ => rfl
theorem g244_111 : rg Z d rx_m244 111 L S (rz_mk h ι, w) = rg Z d rx_m244 112 L (.int 0 :: S) (rz_mk h ι, w) := rz_s1 fun _ => rfl
theorem g244_112 : rg Z d rx_m244 112 L (v3 :: v2 :: v1 :: [.int s0]) (rz_mk h ι, w) = rz_k true (rz_f Z d 217 [v1, v2, v3] (rz_mk h ι, w)) (fun v σ' => rg Z d rx_m244 115 L (v.toList ++ [.int s0]) σ') := rz_cs (pc := 112) (n := 3) (mi := 217) (S := v3 :: v2 :: v1 :: [.int s0]) (rest := [.int s0]) rfl rfl (Nat.le_of_ble_eq_true rfl) (Nat.le_of_ble_eq_true rfl)
theorem g244_115 : rg Z d rx_m244 115 L (v2 :: v1 :: []) (rz_mk h ι, w) = rz_k true (rz_f Z d 215 [v1, v2] (rz_mk h ι, w)) (fun v σ' => rg Z d rx_m244 118 L (v.toList ++ []) σ') := rz_cs (pc := 115) (n := 2) (mi := 215) (S := v2 :: v1 :: []) (rest := []) rfl rfl (Nat.le_of_ble_eq_true rfl) (Nat.le_of_ble_eq_true rfl)
theorem g244_118 : rg Z d rx_m244 118 [l0, l1, l2, l3, l4, some (.int x), l6] S (rz_mk h ι, w) = rg Z d rx_m244 120 [l0, l1, l2, l3, l4, some (.int x), l6] (.int x :: S) (rz_mk h ι, w) := rz_s1 fun _ => rfl
theorem g244_120 : rg Z d rx_m244 120 L S (rz_mk h ι, w) = rg Z d rx_m244 122 L (.int 10 :: S) (rz_mk h ι, w) := rz_s1 fun _ => rfl
theorem g244_122 : rg Z d rx_m244 122 L (.int 10 :: .int x :: S) (rz_mk h ι, w) = rg Z d rx_m244 123 L (.int (x / 10) :: S) (rz_mk h ι, w) := rz_div rfl (by decide)
theorem g244_123 : rg Z d rx_m244 123 L S (rz_mk h ι, w) = rg Z d rx_m244 125 L (.int 10 :: S) (rz_mk h ι, w) := rz_s1 fun _ => rfl
theorem g244_125 : rg Z d rx_m244 125 L (.int 10 :: .int x :: S) (rz_mk h ι, w) = rg Z d rx_m244 126 L (.int (x - x / 10 * 10) :: S) (rz_mk h ι, w) := rz_rem rfl (by decide)
theorem g244_126 : rg Z d rx_m244 126 [some (.ref a), l1, l2, l3, l4, l5, l6] S (rz_mk h ι, w) = rg Z d rx_m244 127 [some (.ref a), l1, l2, l3, l4, l5, l6] (.ref a :: S) (rz_mk h ι, w) := rz_s1 fun _ => rfl
theorem g244_127 (c : rz_fR h a 12 25) : rg Z d rx_m244 127 L (.ref a :: S) (rz_mk h ι, w) = rg Z d rx_m244 130 L (rz_rv h a 25 :: S) (rz_mk h ι, w) := rz_gR rfl (by decide) c
theorem g244_130 : rg Z d rx_m244 130 [l0, some (.int x), l2, l3, l4, l5, l6] S (rz_mk h ι, w) = rg Z d rx_m244 131 [l0, some (.int x), l2, l3, l4, l5, l6] (.int x :: S) (rz_mk h ι, w) := rz_s1 fun _ => rfl
theorem g244_131 : rg Z d rx_m244 131 L S (rz_mk h ι, w) = rg Z d rx_m244 132 L (.int 1 :: S) (rz_mk h ι, w) := rz_s1 fun _ => rfl
theorem g244_132 : rg Z d rx_m244 132 L (v3 :: v2 :: v1 :: [.int s0, .int s1]) (rz_mk h ι, w) = rz_k true (rz_f Z d 217 [v1, v2, v3] (rz_mk h ι, w)) (fun v σ' => rg Z d rx_m244 135 L (v.toList ++ [.int s0, .int s1]) σ') := rz_cs (pc := 132) (n := 3) (mi := 217) (S := v3 :: v2 :: v1 :: [.int s0, .int s1]) (rest := [.int s0, .int s1]) rfl rfl (Nat.le_of_ble_eq_true rfl) (Nat.le_of_ble_eq_true rfl)
theorem g244_135 : rg Z d rx_m244 135 L (v2 :: v1 :: [.int s0]) (rz_mk h ι, w) = rz_k true (rz_f Z d 215 [v1, v2] (rz_mk h ι, w)) (fun v σ' => rg Z d rx_m244 138 L (v.toList ++ [.int s0]) σ') := rz_cs (pc := 135) (n := 2) (mi := 215) (S := v2 :: v1 :: [.int s0]) (rest := [.int s0]) rfl rfl (Nat.le_of_ble_eq_true rfl) (Nat.le_of_ble_eq_true rfl)
theorem g244_138 : rg Z d rx_m244 138 L (.int y :: .int x :: S) (rz_mk h ι, w) = rg Z d rx_m244 139 L (.int (x + y) :: S) (rz_mk h ι, w) := rz_s1 fun _ => rfl
theorem g244_139 : rg Z d rx_m244 139 [l0, l1, l2, l3, l4, some (.int x), l6] S (rz_mk h ι, w) = rg Z d rx_m244 141 [l0, l1, l2, l3, l4, some (.int x), l6] (.int x :: S) (rz_mk h ι, w) := rz_s1 fun _ => rfl
theorem g244_141 : rg Z d rx_m244 141 L S (rz_mk h ι, w) = rg Z d rx_m244 143 L (.int 10 :: S) (rz_mk h ι, w) := rz_s1 fun _ => rfl
theorem g244_143 : rg Z d rx_m244 143 L (.int 10 :: .int x :: S) (rz_mk h ι, w) = rg Z d rx_m244 144 L (.int (x - x / 10 * 10) :: S) (rz_mk h ι, w) := rz_rem rfl (by decide)
theorem g244_144 : rg Z d rx_m244 144 [some (.ref a), l1, l2, l3, l4, l5, l6] S (rz_mk h ι, w) = rg Z d rx_m244 145 [some (.ref a), l1, l2, l3, l4, l5, l6] (.ref a :: S) (rz_mk h ι, w) := rz_s1 fun _ => rfl
theorem g244_145 (c : rz_fR h a 12 25) : rg Z d rx_m244 145 L (.ref a :: S) (rz_mk h ι, w) = rg Z d rx_m244 148 L (rz_rv h a 25 :: S) (rz_mk h ι, w) := rz_gR rfl (by decide) c
theorem g244_148 : rg Z d rx_m244 148 [l0, some (.int x), l2, l3, l4, l5, l6] S (rz_mk h ι, w) = rg Z d rx_m244 149 [l0, some (.int x), l2, l3, l4, l5, l6] (.int x :: S) (rz_mk h ι, w) := rz_s1 fun _ => rfl
theorem g244_149 : rg Z d rx_m244 149 L S (rz_mk h ι, w) = rg Z d rx_m244 150 L (.int 2 :: S) (rz_mk h ι, w) := rz_s1 fun _ => rfl
theorem g244_150 : rg Z d rx_m244 150 L (v3 :: v2 :: v1 :: [.int s0, .int s1]) (rz_mk h ι, w) = rz_k true (rz_f Z d 217 [v1, v2, v3] (rz_mk h ι, w)) (fun v σ' => rg Z d rx_m244 153 L (v.toList ++ [.int s0, .int s1]) σ') := rz_cs (pc := 150) (n := 3) (mi := 217) (S := v3 :: v2 :: v1 :: [.int s0, .int s1]) (rest := [.int s0, .int s1]) rfl rfl (Nat.le_of_ble_eq_true rfl) (Nat.le_of_ble_eq_true rfl)
theorem g244_153 : rg Z d rx_m244 153 L (v2 :: v1 :: [.int s0]) (rz_mk h ι, w) = rz_k true (rz_f Z d 215 [v1, v2] (rz_mk h ι, w)) (fun v σ' => rg Z d rx_m244 156 L (v.toList ++ [.int s0]) σ') := rz_cs (pc := 153) (n := 2) (mi := 215) (S := v2 :: v1 :: [.int s0]) (rest := [.int s0]) rfl rfl (Nat.le_of_ble_eq_true rfl) (Nat.le_of_ble_eq_true rfl)
theorem g244_156 : rg Z d rx_m244 156 L (.int y :: .int x :: S) (rz_mk h ι, w) = rg Z d rx_m244 157 L (.int (x + y) :: S) (rz_mk h ι, w) := rz_s1 fun _ => rfl
theorem g244_157 : rg Z d rx_m244 157 [l0, l1, l2, l3, l4, some (.int z), l6] (.int x :: S) (rz_mk h ι, w) = rg Z d rx_m244 159 [l0, l1, l2, l3, l4, some (.int z), some (.int x)] S (rz_mk h ι, w) := rz_s1 fun _ => rfl
theorem g244_159 : rg Z d rx_m244 159 [l0, l1, l2, l3, some (.int x), l5, l6] S (rz_mk h ι, w) = rg Z d rx_m244 161 [l0, l1, l2, l3, some (.int x), l5, l6] (.int x :: S) (rz_mk h ι, w) := rz_s1 fun _ => rfl
theorem g244_161 : rg Z d rx_m244 161 L S (rz_mk h ι, w) = rg Z d rx_m244 162 L (.int (-1) :: S) (rz_mk h ι, w) := rz_s1 fun _ => rfl
theorem g244_162 : rg Z d rx_m244 162 L (.int y :: .int x :: S) (rz_mk h ι, w) = if x = y then rg Z d rx_m244 172 L S (rz_mk h ι, w) else rg Z d rx_m244 165 L S (rz_mk h ι, w) := rz_if2 (pc := 162) (t := 172) (off := 10) (cc := .eq) (by decide) rfl
theorem g244_165 : rg Z d rx_m244 165 [l0, l1, l2, l3, l4, l5, some (.int x)] S (rz_mk h ι, w) = rg Z d rx_m244 167 [l0, l1, l2, l3, l4, l5, some (.int x)] (.int x :: S) (rz_mk h ι, w) := rz_s1 fun _ => rfl
theorem g244_167 : rg Z d rx_m244 167 [l0, l1, l2, l3, some (.int x), l5, l6] S (rz_mk h ι, w) = rg Z d rx_m244 169 [l0, l1, l2, l3, some (.int x), l5, l6] (.int x :: S) (rz_mk h ι, w) := rz_s1 fun _ => rfl
theorem g244_169 : rg Z d rx_m244 169 L (.int y :: .int x :: S) (rz_mk h ι, w) = if x < y then rg Z d rx_m244 172 L S (rz_mk h ι, w) else rg Z d rx_m244 208 L S (rz_mk h ι, w) := rz_if2 (pc := 169) (t := 208) (off := 39) (cc := .ge) (by decide) rfl
theorem g244_172 : rg Z d rx_m244 172 [some (.ref a), l1, l2, l3, l4, l5, l6] S (rz_mk h ι, w) = rg Z d rx_m244 173 [some (.ref a), l1, l2, l3, l4, l5, l6] (.ref a :: S) (rz_mk h ι, w) := rz_s1 fun _ => rfl
theorem g244_173 : rg Z d rx_m244 173 [l0, some (.int x), l2, l3, l4, l5, l6] S (rz_mk h ι, w) = rg Z d rx_m244 174 [l0, some (.int x), l2, l3, l4, l5, l6] (.int x :: S) (rz_mk h ι, w) := rz_s1 fun _ => rfl
theorem g244_174 : rg Z d rx_m244 174 [l0, l1, l2, l3, l4, some (.int x), l6] S (rz_mk h ι, w) = rg Z d rx_m244 176 [l0, l1, l2, l3, l4, some (.int x), l6] (.int x :: S) (rz_mk h ι, w) := rz_s1 fun _ => rfl
theorem g244_176 : rg Z d rx_m244 176 L S (rz_mk h ι, w) = rg Z d rx_m244 178 L (.int 100 :: S) (rz_mk h ι, w) := rz_s1 fun _ => rfl
theorem g244_178 : rg Z d rx_m244 178 L (.int 100 :: .int x :: S) (rz_mk h ι, w) = rg Z d rx_m244 179 L (.int (x / 100) :: S) (rz_mk h ι, w) := rz_div rfl (by decide)
theorem g244_179 : rg Z d rx_m244 179 [l0, l1, l2, l3, l4, some (.int x), l6] S (rz_mk h ι, w) = rg Z d rx_m244 181 [l0, l1, l2, l3, l4, some (.int x), l6] (.int x :: S) (rz_mk h ι, w) := rz_s1 fun _ => rfl
theorem g244_181 : rg Z d rx_m244 181 L S (rz_mk h ι, w) = rg Z d rx_m244 183 L (.int 10 :: S) (rz_mk h ι, w) := rz_s1 fun _ => rfl
theorem g244_183 : rg Z d rx_m244 183 L (.int 10 :: .int x :: S) (rz_mk h ι, w) = rg Z d rx_m244 184 L (.int (x / 10) :: S) (rz_mk h ι, w) := rz_div rfl (by decide)
theorem g244_184 : rg Z d rx_m244 184 L S (rz_mk h ι, w) = rg Z d rx_m244 186 L (.int 10 :: S) (rz_mk h ι, w) := rz_s1 fun _ => rfl
theorem g244_186 : rg Z d rx_m244 186 L (.int 10 :: .int x :: S) (rz_mk h ι, w) = rg Z d rx_m244 187 L (.int (x - x / 10 * 10) :: S) (rz_mk h ι, w) := rz_rem rfl (by decide)
theorem g244_187 : rg Z d rx_m244 187 [l0, l1, l2, l3, l4, some (.int x), l6] S (rz_mk h ι, w) = rg Z d rx_m244 189 [l0, l1, l2, l3, l4, some (.int x), l6] (.int x :: S) (rz_mk h ι, w) := rz_s1 fun _ => rfl
theorem g244_189 : rg Z d rx_m244 189 L S (rz_mk h ι, w) = rg Z d rx_m244 191 L (.int 10 :: S) (rz_mk h ι, w) := rz_s1 fun _ => rfl
theorem g244_191 : rg Z d rx_m244 191 L (.int 10 :: .int x :: S) (rz_mk h ι, w) = rg Z d rx_m244 192 L (.int (x - x / 10 * 10) :: S) (rz_mk h ι, w) := rz_rem rfl (by decide)
theorem g244_192 (c : rz_oc h a 12) : rg Z d rx_m244 192 L (v4 :: v3 :: v2 :: v1 :: .ref a :: []) (rz_mk h ι, w) = rz_k true (rz_f Z d 243 [.ref a, v1, v2, v3, v4] (rz_mk h ι, w)) (fun v σ' => rg Z d rx_m244 195 L (v.toList ++ []) σ') := rz_cv (pc := 192) (n := 4) (mi := 243) (S := v4 :: v3 :: v2 :: v1 :: .ref a :: []) (rest := []) rfl rfl (Nat.le_of_ble_eq_true rfl) (Nat.le_of_ble_eq_true rfl) c
theorem g244_195 : rg Z d rx_m244 195 L (.int x :: S) (rz_mk h ι, w) = if x = 0 then rg Z d rx_m244 198 L S (rz_mk h ι, w) else rg Z d rx_m244 201 L S (rz_mk h ι, w) := rz_if1 (pc := 195) (t := 201) (off := 6) (cc := .ne) (by decide) rfl
theorem g244_198 : rg Z d rx_m244 198 L S (rz_mk h ι, w) = rg Z d rx_m244 208 L S (rz_mk h ι, w) := rz_s1 fun _ => rfl
theorem g244_201 : rg Z d rx_m244 201 [l0, l1, l2, l3, l4, some (.int x), l6] S (rz_mk h ι, w) = rg Z d rx_m244 203 [l0, l1, l2, l3, l4, some (.int x), l6] (.int x :: S) (rz_mk h ι, w) := rz_s1 fun _ => rfl
theorem g244_203 : rg Z d rx_m244 203 [l0, l1, some (.int z), l3, l4, l5, l6] (.int x :: S) (rz_mk h ι, w) = rg Z d rx_m244 204 [l0, l1, some (.int z), some (.int x), l4, l5, l6] S (rz_mk h ι, w) := rz_s1 fun _ => rfl
theorem g244_204 : rg Z d rx_m244 204 [l0, l1, l2, l3, l4, l5, some (.int x)] S (rz_mk h ι, w) = rg Z d rx_m244 206 [l0, l1, l2, l3, l4, l5, some (.int x)] (.int x :: S) (rz_mk h ι, w) := rz_s1 fun _ => rfl
theorem g244_206 : rg Z d rx_m244 206 [l0, l1, l2, some (.int z), l4, l5, l6] (.int x :: S) (rz_mk h ι, w) = rg Z d rx_m244 208 [l0, l1, l2, some (.int z), some (.int x), l5, l6] S (rz_mk h ι, w) := rz_s1 fun _ => rfl
theorem g244_208 : rg Z d rx_m244 208 [l0, l1, l2, l3, some (.int z), some (.int x), l6] S (rz_mk h ι, w) = rg Z d rx_m244 211 [l0, l1, l2, l3, some (.int z), some (.int (x + 1)), l6] S (rz_mk h ι, w) := rz_s1 fun _ => rfl
theorem g244_211 : rg Z d rx_m244 211 L S (rz_mk h ι, w) = rg Z d rx_m244 60 L S (rz_mk h ι, w) := rz_s1 fun _ => rfl
theorem g244_214 : rg Z d rx_m244 214 [l0, l1, some (.int x), l3, l4, l5, l6] S (rz_mk h ι, w) = rg Z d rx_m244 215 [l0, l1, some (.int x), l3, l4, l5, l6] (.int x :: S) (rz_mk h ι, w) := rz_s1 fun _ => rfl
theorem g244_215 : rg Z d rx_m244 215 L (.int x :: S) (rz_mk h ι, w) = if x = 0 then rg Z d rx_m244 218 L S (rz_mk h ι, w) else rg Z d rx_m244 223 L S (rz_mk h ι, w) := rz_if1 (pc := 215) (t := 223) (off := 8) (cc := .ne) (by decide) rfl
theorem g244_218 : rg Z d rx_m244 218 [l0, l1, l2, l3, some (.int x), l5, l6] S (rz_mk h ι, w) = rg Z d rx_m244 220 [l0, l1, l2, l3, some (.int x), l5, l6] (.int x :: S) (rz_mk h ι, w) := rz_s1 fun _ => rfl
theorem g244_220 : rg Z d rx_m244 220 L S (rz_mk h ι, w) = rg Z d rx_m244 224 L S (rz_mk h ι, w) := rz_s1 fun _ => rfl
theorem g244_223 : rg Z d rx_m244 223 [l0, l1, l2, some (.int x), l4, l5, l6] S (rz_mk h ι, w) = rg Z d rx_m244 224 [l0, l1, l2, some (.int x), l4, l5, l6] (.int x :: S) (rz_mk h ι, w) := rz_s1 fun _ => rfl
theorem g244_224 : rg Z d rx_m244 224 L [.int x] (rz_mk h ι, w) = some (.inl (some (.int x)), (rz_mk h ι, w)) := rz_reti rfl rfl rfl
theorem e244 : rz_f Z (d + 1) 244 [.ref t0, .int s1, .int s2] σ = rg Z d rx_m244 0 [some (.ref t0), some (.int s1), some (.int s2), none, none, none, none] [] σ := rz_f_eq rfl (Nat.le_of_ble_eq_true rfl)
theorem g245_0 : rg Z d rx_m245 0 [some (.ref a), l1, l2, l3, l4, l5, l6, l7] S (rz_mk h ι, w) = rg Z d rx_m245 1 [some (.ref a), l1, l2, l3, l4, l5, l6, l7] (.ref a :: S) (rz_mk h ι, w) := rz_s1 fun _ => rfl
theorem g245_1 : rg Z d rx_m245 1 L S (rz_mk h ι, w) = rg Z d rx_m245 2 L (.int 0 :: S) (rz_mk h ι, w) := rz_s1 fun _ => rfl
theorem g245_2 (c : rz_fI h a 12 0) (hz : Z.2.1 ≤ a) : rg Z d rx_m245 2 L (.int x :: .ref a :: S) (rz_mk h ι, w) = rg Z d rx_m245 5 L S (rz_mk h (rz_up ι a 0 x), w) := rz_pI rfl c hz
theorem g245_5 : rg Z d rx_m245 5 [some (.ref a), l1, l2, l3, l4, l5, l6, l7] S (rz_mk h ι, w) = rg Z d rx_m245 6 [some (.ref a), l1, l2, l3, l4, l5, l6, l7] (.ref a :: S) (rz_mk h ι, w) := rz_s1 fun _ => rfl
theorem g245_6 : rg Z d rx_m245 6 [some (.ref a), l1, l2, l3, l4, l5, l6, l7] S (rz_mk h ι, w) = rg Z d rx_m245 7 [some (.ref a), l1, l2, l3, l4, l5, l6, l7] (.ref a :: S) (rz_mk h ι, w) := rz_s1 fun _ => rfl
theorem g245_7 : rg Z d rx_m245 7 [l0, some (.int x), l2, l3, l4, l5, l6, l7] S (rz_mk h ι, w) = rg Z d rx_m245 8 [l0, some (.int x), l2, l3, l4, l5, l6, l7] (.int x :: S) (rz_mk h ι, w) := rz_s1 fun _ => rfl
theorem g245_8 (c : rz_oc h a 12) : rg Z d rx_m245 8 L (v1 :: .ref a :: [.ref t0]) (rz_mk h ι, w) = rz_k true (rz_f Z d 236 [.ref a, v1] (rz_mk h ι, w)) (fun v σ' => rg Z d rx_m245 11 L (v.toList ++ [.ref t0]) σ') := rz_cv (pc := 8) (n := 1) (mi := 236) (S := v1 :: .ref a :: [.ref t0]) (rest := [.ref t0]) rfl rfl (Nat.le_of_ble_eq_true rfl) (Nat.le_of_ble_eq_true rfl) c
theorem g245_11 : rg Z d rx_m245 11 L (.int x :: S) (rz_mk h ι, w) = if x = 0 then rg Z d rx_m245 14 L S (rz_mk h ι, w) else rg Z d rx_m245 18 L S (rz_mk h ι, w) := rz_if1 (pc := 11) (t := 18) (off := 7) (cc := .ne) (by decide) rfl
theorem g245_14 : rg Z d rx_m245 14 L S (rz_mk h ι, w) = rg Z d rx_m245 15 L (.int 1 :: S) (rz_mk h ι, w) := rz_s1 fun _ => rfl
theorem g245_15 : rg Z d rx_m245 15 L S (rz_mk h ι, w) = rg Z d rx_m245 19 L S (rz_mk h ι, w) := rz_s1 fun _ => rfl
theorem g245_18 : rg Z d rx_m245 18 L S (rz_mk h ι, w) = rg Z d rx_m245 19 L (.int 0 :: S) (rz_mk h ι, w) := rz_s1 fun _ => rfl
theorem g245_19 : rg Z d rx_m245 19 L S (rz_mk h ι, w) = rg Z d rx_m245 20 L (.int 1 :: S) (rz_mk h ι, w) := rz_s1 fun _ => rfl
theorem g245_20 : rg Z d rx_m245 20 L S (rz_mk h ι, w) = rg Z d rx_m245 21 L (.int 0 :: S) (rz_mk h ι, w) := rz_s1 fun _ => rfl
theorem g245_21 (c : rz_oc h a 12) : rg Z d rx_m245 21 L (v3 :: v2 :: v1 :: .ref a :: []) (rz_mk h ι, w) = rz_k true (rz_f Z d 174 [.ref a, v1, v2, v3] (rz_mk h ι, w)) (fun v σ' => rg Z d rx_m245 24 L (v.toList ++ []) σ') := rz_cv (pc := 21) (n := 3) (mi := 174) (S := v3 :: v2 :: v1 :: .ref a :: []) (rest := []) rfl rfl (Nat.le_of_ble_eq_true rfl) (Nat.le_of_ble_eq_true rfl) c
theorem g245_24 : rg Z d rx_m245 24 L (.int x :: S) (rz_mk h ι, w) = if x = 0 then rg Z d rx_m245 27 L S (rz_mk h ι, w) else rg Z d rx_m245 50 L S (rz_mk h ι, w) := rz_if1 (pc := 24) (t := 50) (off := 26) (cc := .ne) (by decide) rfl
theorem g245_27 : rg Z d rx_m245 27 [some (.ref a), l1, l2, l3, l4, l5, l6, l7] S (rz_mk h ι, w) = rg Z d rx_m245 28 [some (.ref a), l1, l2, l3, l4, l5, l6, l7] (.ref a :: S) (rz_mk h ι, w) := rz_s1 fun _ => rfl
theorem g245_28 : rg Z d rx_m245 28 [l0, l1, some (.int x), l3, l4, l5, l6, l7] S (rz_mk h ι, w) = rg Z d rx_m245 29 [l0, l1, some (.int x), l3, l4, l5, l6, l7] (.int x :: S) (rz_mk h ι, w) := rz_s1 fun _ => rfl
theorem g245_29 : rg Z d rx_m245 29 L S (rz_mk h ι, w) = rg Z d rx_m245 30 L (.int 0 :: S) (rz_mk h ι, w) := rz_s1 fun _ => rfl
theorem g245_30 : rg Z d rx_m245 30 L S (rz_mk h ι, w) = rg Z d rx_m245 31 L (.int 1 :: S) (rz_mk h ι, w) := rz_s1 fun _ => rfl
theorem g245_31 : rg Z d rx_m245 31 L (v3 :: v2 :: v1 :: [.ref t0]) (rz_mk h ι, w) = rz_k true (rz_f Z d 175 [v1, v2, v3] (rz_mk h ι, w)) (fun v σ' => rg Z d rx_m245 34 L (v.toList ++ [.ref t0]) σ') := rz_cs (pc := 31) (n := 3) (mi := 175) (S := v3 :: v2 :: v1 :: [.ref t0]) (rest := [.ref t0]) rfl rfl (Nat.le_of_ble_eq_true rfl) (Nat.le_of_ble_eq_true rfl)
theorem g245_34 : rg Z d rx_m245 34 L (.int x :: S) (rz_mk h ι, w) = if x = 0 then rg Z d rx_m245 37 L S (rz_mk h ι, w) else rg Z d rx_m245 41 L S (rz_mk h ι, w) := rz_if1 (pc := 34) (t := 41) (off := 7) (cc := .ne) (by decide) rfl
theorem g245_37 : rg Z d rx_m245 37 L S (rz_mk h ι, w) = rg Z d rx_m245 38 L (.int 1 :: S) (rz_mk h ι, w) := rz_s1 fun _ => rfl
theorem g245_38 : rg Z d rx_m245 38 L S (rz_mk h ι, w) = rg Z d rx_m245 42 L S (rz_mk h ι, w) := rz_s1 fun _ => rfl
theorem g245_41 : rg Z d rx_m245 41 L S (rz_mk h ι, w) = rg Z d rx_m245 42 L (.int 0 :: S) (rz_mk h ι, w) := rz_s1 fun _ => rfl
theorem g245_42 : rg Z d rx_m245 42 L S (rz_mk h ι, w) = rg Z d rx_m245 43 L (.int 2 :: S) (rz_mk h ι, w) := rz_s1 fun _ => rfl
theorem g245_43 : rg Z d rx_m245 43 L S (rz_mk h ι, w) = rg Z d rx_m245 44 L (.int 1 :: S) (rz_mk h ι, w) := rz_s1 fun _ => rfl
theorem g245_44 (c : rz_oc h a 12) : rg Z d rx_m245 44 L (v3 :: v2 :: v1 :: .ref a :: []) (rz_mk h ι, w) = rz_k true (rz_f Z d 174 [.ref a, v1, v2, v3] (rz_mk h ι, w)) (fun v σ' => rg Z d rx_m245 47 L (v.toList ++ []) σ') := rz_cv (pc := 44) (n := 3) (mi := 174) (S := v3 :: v2 :: v1 :: .ref a :: []) (rest := []) rfl rfl (Nat.le_of_ble_eq_true rfl) (Nat.le_of_ble_eq_true rfl) c
theorem g245_47 : rg Z d rx_m245 47 L (.int x :: S) (rz_mk h ι, w) = if x = 0 then rg Z d rx_m245 52 L S (rz_mk h ι, w) else rg Z d rx_m245 50 L S (rz_mk h ι, w) := rz_if1 (pc := 47) (t := 52) (off := 5) (cc := .eq) (by decide) rfl
theorem g245_50 : rg Z d rx_m245 50 L S (rz_mk h ι, w) = rg Z d rx_m245 51 L (.int 0 :: S) (rz_mk h ι, w) := rz_s1 fun _ => rfl
theorem g245_51 : rg Z d rx_m245 51 L [.int x] (rz_mk h ι, w) = some (.inl (some (.int x)), (rz_mk h ι, w)) := rz_reti rfl rfl rfl
theorem g245_52 : rg Z d rx_m245 52 [some (.ref a), l1, l2, l3, l4, l5, l6, l7] S (rz_mk h ι, w) = rg Z d rx_m245 53 [some (.ref a), l1, l2, l3, l4, l5, l6, l7] (.ref a :: S) (rz_mk h ι, w) := rz_s1 fun _ => rfl
theorem g245_53 (c : rz_fR h a 12 25) : rg Z d rx_m245 53 L (.ref a :: S) (rz_mk h ι, w) = rg Z d rx_m245 56 L (rz_rv h a 25 :: S) (rz_mk h ι, w) := rz_gR rfl (by decide) c
theorem g245_56 : rg Z d rx_m245 56 L S (rz_mk h ι, w) = rg Z d rx_m245 58 L (.int 56 :: S) (rz_mk h ι, w) := rz_s1 fun _ => rfl
theorem g245_58 (c : rz_ar h a 0) (hi : rz_ix x (rz_ln h a)) : rg Z d rx_m245 58 L (.int x :: .ref a :: S) (rz_mk h ι, w) = rg Z d rx_m245 59 L (.int (ι a x.toNatClampNeg) :: S) (rz_mk h ι, w) := rz_iald rfl c hi
theorem g245_59 : rg Z d rx_m245 59 L (v1 :: []) (rz_mk h ι, w) = rz_k true (rz_f Z d 234 [v1] (rz_mk h ι, w)) (fun v σ' => rg Z d rx_m245 62 L (v.toList ++ []) σ') := rz_cs (pc := 59) (n := 1) (mi := 234) (S := v1 :: []) (rest := []) rfl rfl (Nat.le_of_ble_eq_true rfl) (Nat.le_of_ble_eq_true rfl)
theorem g245_62 : rg Z d rx_m245 62 L S (rz_mk h ι, w) = rg Z d rx_m245 63 L (.int 2 :: S) (rz_mk h ι, w) := rz_s1 fun _ => rfl
theorem g245_63 : rg Z d rx_m245 63 L (.int y :: .int x :: S) (rz_mk h ι, w) = if x < y then rg Z d rx_m245 66 L S (rz_mk h ι, w) else rg Z d rx_m245 68 L S (rz_mk h ι, w) := rz_if2 (pc := 63) (t := 68) (off := 5) (cc := .ge) (by decide) rfl
theorem g245_66 : rg Z d rx_m245 66 L S (rz_mk h ι, w) = rg Z d rx_m245 67 L (.int 0 :: S) (rz_mk h ι, w) := rz_s1 fun _ => rfl
theorem g245_67 : rg Z d rx_m245 67 L [.int x] (rz_mk h ι, w) = some (.inl (some (.int x)), (rz_mk h ι, w)) := rz_reti rfl rfl rfl
theorem g245_68 : rg Z d rx_m245 68 [l0, some (.int x), l2, l3, l4, l5, l6, l7] S (rz_mk h ι, w) = rg Z d rx_m245 69 [l0, some (.int x), l2, l3, l4, l5, l6, l7] (.int x :: S) (rz_mk h ι, w) := rz_s1 fun _ => rfl
theorem g245_69 : rg Z d rx_m245 69 [l0, l1, some (.int z), l3, l4, l5, l6, l7] (.int x :: S) (rz_mk h ι, w) = rg Z d rx_m245 70 [l0, l1, some (.int z), some (.int x), l4, l5, l6, l7] S (rz_mk h ι, w) := rz_s1 fun _ => rfl
theorem g245_70 : rg Z d rx_m245 70 L S (rz_mk h ι, w) = rg Z d rx_m245 71 L (.int 0 :: S) (rz_mk h ι, w) := rz_s1 fun _ => rfl
theorem g245_71 : rg Z d rx_m245 71 [l0, l1, l2, some (.int z), l4, l5, l6, l7] (.int x :: S) (rz_mk h ι, w) = rg Z d rx_m245 73 [l0, l1, l2, some (.int z), some (.int x), l5, l6, l7] S (rz_mk h ι, w) := rz_s1 fun _ => rfl
theorem g245_73 : rg Z d rx_m245 73 L S (rz_mk h ι, w) = rg Z d rx_m245 74 L (.int 0 :: S) (rz_mk h ι, w) := rz_s1 fun _ => rfl
theorem g245_74 : rg Z d rx_m245 74 [l0, l1, l2, l3, some (.int z), l5, l6, l7] (.int x :: S) (rz_mk h ι, w) = rg Z d rx_m245 76 [l0, l1, l2, l3, some (.int z), some (.int x), l6, l7] S (rz_mk h ι, w) := rz_s1 fun _ => rfl
theorem g245_76 : rg Z d rx_m245 76 L S (rz_mk h ι, w) = rg Z d rx_m245 77 L (.int 0 :: S) (rz_mk h ι, w) := rz_s1 fun _ => rfl
theorem g245_77 : rg Z d rx_m245 77 [l0, l1, l2, l3, l4, some (.int z), l6, l7] (.int x :: S) (rz_mk h ι, w) = rg Z d rx_m245 79 [l0, l1, l2, l3, l4, some (.int z), some (.int x), l7] S (rz_mk h ι, w) := rz_s1 fun _ => rfl
theorem g245_79 : rg Z d rx_m245 79 [l0, l1, l2, l3, l4, some (.int x), l6, l7] S (rz_mk h ι, w) = rg Z d rx_m245 81 [l0, l1, l2, l3, l4, some (.int x), l6, l7] (.int x :: S) (rz_mk h ι, w) := rz_s1 fun _ => rfl
theorem g245_81 : rg Z d rx_m245 81 [l0, l1, l2, some (.int x), l4, l5, l6, l7] S (rz_mk h ι, w) = rg Z d rx_m245 82 [l0, l1, l2, some (.int x), l4, l5, l6, l7] (.int x :: S) (rz_mk h ι, w) := rz_s1 fun _ => rfl
theorem g245_82 : rg Z d rx_m245 82 L (v2 :: v1 :: []) (rz_mk h ι, w) = rz_k true (rz_f Z d 178 [v1, v2] (rz_mk h ι, w)) (fun v σ' => rg Z d rx_m245 85 L (v.toList ++ []) σ') := rz_cs (pc := 82) (n := 2) (mi := 178) (S := v2 :: v1 :: []) (rest := []) rfl rfl (Nat.le_of_ble_eq_true rfl) (Nat.le_of_ble_eq_true rfl)
theorem g245_85 : rg Z d rx_m245 85 L (.int x :: S) (rz_mk h ι, w) = if x = 0 then rg Z d rx_m245 88 L S (rz_mk h ι, w) else rg Z d rx_m245 112 L S (rz_mk h ι, w) := rz_if1 (pc := 85) (t := 112) (off := 27) (cc := .ne) (by decide) rfl
theorem g245_88 : rg Z d rx_m245 88 [l0, l1, l2, l3, l4, some (.int x), l6, l7] S (rz_mk h ι, w) = rg Z d rx_m245 90 [l0, l1, l2, l3, l4, some (.int x), l6, l7] (.int x :: S) (rz_mk h ι, w) := rz_s1 fun _ => rfl
theorem g245_90 : rg Z d rx_m245 90 L S (rz_mk h ι, w) = rg Z d rx_m245 91 L (.int 1 :: S) (rz_mk h ι, w) := rz_s1 fun _ => rfl
theorem g245_91 : rg Z d rx_m245 91 [l0, l1, l2, some (.int x), l4, l5, l6, l7] S (rz_mk h ι, w) = rg Z d rx_m245 92 [l0, l1, l2, some (.int x), l4, l5, l6, l7] (.int x :: S) (rz_mk h ι, w) := rz_s1 fun _ => rfl
theorem g245_92 : rg Z d rx_m245 92 L (.int y :: .int x :: S) (rz_mk h ι, w) = rg Z d rx_m245 93 L (.int (x <<< (y &&& 31)) :: S) (rz_mk h ι, w) := rz_s1 fun _ => rfl
theorem g245_93 : rg Z d rx_m245 93 L (.int y :: .int x :: S) (rz_mk h ι, w) = rg Z d rx_m245 94 L (.int (x ||| y) :: S) (rz_mk h ι, w) := rz_s1 fun _ => rfl
theorem g245_94 : rg Z d rx_m245 94 [l0, l1, l2, l3, some (.int z), l5, l6, l7] (.int x :: S) (rz_mk h ι, w) = rg Z d rx_m245 96 [l0, l1, l2, l3, some (.int z), some (.int x), l6, l7] S (rz_mk h ι, w) := rz_s1 fun _ => rfl
theorem g245_96 : rg Z d rx_m245 96 [some (.ref a), l1, l2, l3, l4, l5, l6, l7] S (rz_mk h ι, w) = rg Z d rx_m245 97 [some (.ref a), l1, l2, l3, l4, l5, l6, l7] (.ref a :: S) (rz_mk h ι, w) := rz_s1 fun _ => rfl
theorem g245_97 : rg Z d rx_m245 97 [some (.ref a), l1, l2, l3, l4, l5, l6, l7] S (rz_mk h ι, w) = rg Z d rx_m245 98 [some (.ref a), l1, l2, l3, l4, l5, l6, l7] (.ref a :: S) (rz_mk h ι, w) := rz_s1 fun _ => rfl
theorem g245_98 (c : rz_fR h a 12 25) : rg Z d rx_m245 98 L (.ref a :: S) (rz_mk h ι, w) = rg Z d rx_m245 101 L (rz_rv h a 25 :: S) (rz_mk h ι, w) := rz_gR rfl (by decide) c
theorem g245_101 : rg Z d rx_m245 101 [l0, l1, l2, some (.int x), l4, l5, l6, l7] S (rz_mk h ι, w) = rg Z d rx_m245 102 [l0, l1, l2, some (.int x), l4, l5, l6, l7] (.int x :: S) (rz_mk h ι, w) := rz_s1 fun _ => rfl
theorem g245_102 (c : rz_oc h a 12) : rg Z d rx_m245 102 L (v2 :: v1 :: .ref a :: []) (rz_mk h ι, w) = rz_k true (rz_f Z d 223 [.ref a, v1, v2] (rz_mk h ι, w)) (fun v σ' => rg Z d rx_m245 105 L (v.toList ++ []) σ') := rz_cv (pc := 102) (n := 2) (mi := 223) (S := v2 :: v1 :: .ref a :: []) (rest := []) rfl rfl (Nat.le_of_ble_eq_true rfl) (Nat.le_of_ble_eq_true rfl) c
theorem g245_105 : rg Z d rx_m245 105 [l0, l1, some (.int z), l3, l4, l5, l6, l7] (.int x :: S) (rz_mk h ι, w) = rg Z d rx_m245 106 [l0, l1, some (.int z), some (.int x), l4, l5, l6, l7] S (rz_mk h ι, w) := rz_s1 fun _ => rfl
theorem g245_106 : rg Z d rx_m245 106 [l0, l1, l2, some (.int z), some (.int x), l5, l6, l7] S (rz_mk h ι, w) = rg Z d rx_m245 109 [l0, l1, l2, some (.int z), some (.int (x + 1)), l5, l6, l7] S (rz_mk h ι, w) := rz_s1 fun _ => rfl
theorem g245_109 : rg Z d rx_m245 109 L S (rz_mk h ι, w) = rg Z d rx_m245 79 L S (rz_mk h ι, w) := rz_s1 fun _ => rfl
theorem g245_112 : rg Z d rx_m245 112 [l0, some (.int x), l2, l3, l4, l5, l6, l7] S (rz_mk h ι, w) = rg Z d rx_m245 113 [l0, some (.int x), l2, l3, l4, l5, l6, l7] (.int x :: S) (rz_mk h ι, w) := rz_s1 fun _ => rfl
theorem g245_113 : rg Z d rx_m245 113 [l0, l1, l2, l3, l4, l5, some (.int z), l7] (.int x :: S) (rz_mk h ι, w) = rg Z d rx_m245 115 [l0, l1, l2, l3, l4, l5, some (.int z), some (.int x)] S (rz_mk h ι, w) := rz_s1 fun _ => rfl
theorem g245_115 : rg Z d rx_m245 115 [l0, l1, l2, l3, l4, l5, l6, some (.int x)] S (rz_mk h ι, w) = rg Z d rx_m245 117 [l0, l1, l2, l3, l4, l5, l6, some (.int x)] (.int x :: S) (rz_mk h ι, w) := rz_s1 fun _ => rfl
theorem g245_117 : rg Z d rx_m245 117 [l0, l1, l2, some (.int x), l4, l5, l6, l7] S (rz_mk h ι, w) = rg Z d rx_m245 118 [l0, l1, l2, some (.int x), l4, l5, l6, l7] (.int x :: S) (rz_mk h ι, w) := rz_s1 fun _ => rfl
theorem g245_118 : rg Z d rx_m245 118 L (.int y :: .int x :: S) (rz_mk h ι, w) = if x = y then rg Z d rx_m245 139 L S (rz_mk h ι, w) else rg Z d rx_m245 121 L S (rz_mk h ι, w) := rz_if2 (pc := 118) (t := 139) (off := 21) (cc := .eq) (by decide) rfl
theorem g245_121 : rg Z d rx_m245 121 [l0, l1, l2, l3, l4, some (.int z), some (.int x), l7] S (rz_mk h ι, w) = rg Z d rx_m245 124 [l0, l1, l2, l3, l4, some (.int z), some (.int (x + 1)), l7] S (rz_mk h ι, w) := rz_s1 fun _ => rfl
theorem g245_124 : rg Z d rx_m245 124 [some (.ref a), l1, l2, l3, l4, l5, l6, l7] S (rz_mk h ι, w) = rg Z d rx_m245 125 [some (.ref a), l1, l2, l3, l4, l5, l6, l7] (.ref a :: S) (rz_mk h ι, w) := rz_s1 fun _ => rfl
theorem g245_125 : rg Z d rx_m245 125 [some (.ref a), l1, l2, l3, l4, l5, l6, l7] S (rz_mk h ι, w) = rg Z d rx_m245 126 [some (.ref a), l1, l2, l3, l4, l5, l6, l7] (.ref a :: S) (rz_mk h ι, w) := rz_s1 fun _ => rfl
theorem g245_126 (c : rz_fR h a 12 25) : rg Z d rx_m245 126 L (.ref a :: S) (rz_mk h ι, w) = rg Z d rx_m245 129 L (rz_rv h a 25 :: S) (rz_mk h ι, w) := rz_gR rfl (by decide) c
theorem g245_129 : rg Z d rx_m245 129 [l0, l1, l2, l3, l4, l5, l6, some (.int x)] S (rz_mk h ι, w) = rg Z d rx_m245 131 [l0, l1, l2, l3, l4, l5, l6, some (.int x)] (.int x :: S) (rz_mk h ι, w) := rz_s1 fun _ => rfl
theorem g245_131 (c : rz_oc h a 12) : rg Z d rx_m245 131 L (v2 :: v1 :: .ref a :: []) (rz_mk h ι, w) = rz_k true (rz_f Z d 223 [.ref a, v1, v2] (rz_mk h ι, w)) (fun v σ' => rg Z d rx_m245 134 L (v.toList ++ []) σ') := rz_cv (pc := 131) (n := 2) (mi := 223) (S := v2 :: v1 :: .ref a :: []) (rest := []) rfl rfl (Nat.le_of_ble_eq_true rfl) (Nat.le_of_ble_eq_true rfl) c
theorem g245_134 : rg Z d rx_m245 134 [l0, l1, l2, l3, l4, l5, some (.int z), l7] (.int x :: S) (rz_mk h ι, w) = rg Z d rx_m245 136 [l0, l1, l2, l3, l4, l5, some (.int z), some (.int x)] S (rz_mk h ι, w) := rz_s1 fun _ => rfl
theorem g245_136 : rg Z d rx_m245 136 L S (rz_mk h ι, w) = rg Z d rx_m245 115 L S (rz_mk h ι, w) := rz_s1 fun _ => rfl
theorem g245_139 : rg Z d rx_m245 139 [l0, l1, some (.int x), l3, l4, l5, l6, l7] S (rz_mk h ι, w) = rg Z d rx_m245 140 [l0, l1, some (.int x), l3, l4, l5, l6, l7] (.int x :: S) (rz_mk h ι, w) := rz_s1 fun _ => rfl
theorem g245_140 : rg Z d rx_m245 140 L (.int x :: S) (rz_mk h ι, w) = if x = 0 then rg Z d rx_m245 143 L S (rz_mk h ι, w) else rg Z d rx_m245 148 L S (rz_mk h ι, w) := rz_if1 (pc := 140) (t := 148) (off := 8) (cc := .ne) (by decide) rfl
theorem g245_143 : rg Z d rx_m245 143 [l0, l1, l2, l3, l4, l5, some (.int x), l7] S (rz_mk h ι, w) = rg Z d rx_m245 145 [l0, l1, l2, l3, l4, l5, some (.int x), l7] (.int x :: S) (rz_mk h ι, w) := rz_s1 fun _ => rfl
theorem g245_145 : rg Z d rx_m245 145 L S (rz_mk h ι, w) = rg Z d rx_m245 153 L S (rz_mk h ι, w) := rz_s1 fun _ => rfl
theorem g245_148 : rg Z d rx_m245 148 [l0, l1, l2, l3, some (.int x), l5, l6, l7] S (rz_mk h ι, w) = rg Z d rx_m245 150 [l0, l1, l2, l3, some (.int x), l5, l6, l7] (.int x :: S) (rz_mk h ι, w) := rz_s1 fun _ => rfl
theorem g245_150 : rg Z d rx_m245 150 [l0, l1, l2, l3, l4, l5, some (.int x), l7] S (rz_mk h ι, w) = rg Z d rx_m245 152 [l0, l1, l2, l3, l4, l5, some (.int x), l7] (.int x :: S) (rz_mk h ι, w) := rz_s1 fun _ => rfl
theorem g245_152 : rg Z d rx_m245 152 L (.int y :: .int x :: S) (rz_mk h ι, w) = rg Z d rx_m245 153 L (.int (x - y) :: S) (rz_mk h ι, w) := rz_s1 fun _ => rfl
theorem g245_153 : rg Z d rx_m245 153 L [.int x] (rz_mk h ι, w) = some (.inl (some (.int x)), (rz_mk h ι, w)) := rz_reti rfl rfl rfl
theorem e245 : rz_f Z (d + 1) 245 [.ref t0, .int s1, .int s2] σ = rg Z d rx_m245 0 [some (.ref t0), some (.int s1), some (.int s2), none, none, none, none, none] [] σ := rz_f_eq rfl (Nat.le_of_ble_eq_true rfl)
theorem g246_0 : rg Z d rx_m246 0 L S (rz_mk h ι, w) = rg Z d rx_m246 1 L (.int 0 :: S) (rz_mk h ι, w) := rz_s1 fun _ => rfl
theorem g246_1 : rg Z d rx_m246 1 [l0, some (.int z), l2, l3] (.int x :: S) (rz_mk h ι, w) = rg Z d rx_m246 2 [l0, some (.int z), some (.int x), l3] S (rz_mk h ι, w) := rz_s1 fun _ => rfl
theorem g246_2 : rg Z d rx_m246 2 [l0, l1, some (.int x), l3] S (rz_mk h ι, w) = rg Z d rx_m246 3 [l0, l1, some (.int x), l3] (.int x :: S) (rz_mk h ι, w) := rz_s1 fun _ => rfl
theorem g246_3 : rg Z d rx_m246 3 [some (.ref a), l1, l2, l3] S (rz_mk h ι, w) = rg Z d rx_m246 4 [some (.ref a), l1, l2, l3] (.ref a :: S) (rz_mk h ι, w) := rz_s1 fun _ => rfl
theorem g246_4 (c : rz_fI h a 12 29) : rg Z d rx_m246 4 L (.ref a :: S) (rz_mk h ι, w) = rg Z d rx_m246 7 L (.int (ι a 29) :: S) (rz_mk h ι, w) := rz_gI rfl (by decide) c
theorem g246_7 : rg Z d rx_m246 7 L (.int y :: .int x :: S) (rz_mk h ι, w) = if x < y then rg Z d rx_m246 10 L S (rz_mk h ι, w) else rg Z d rx_m246 73 L S (rz_mk h ι, w) := rz_if2 (pc := 7) (t := 73) (off := 66) (cc := .ge) (by decide) rfl
theorem g246_10 : rg Z d rx_m246 10 [some (.ref a), l1, l2, l3] S (rz_mk h ι, w) = rg Z d rx_m246 11 [some (.ref a), l1, l2, l3] (.ref a :: S) (rz_mk h ι, w) := rz_s1 fun _ => rfl
theorem g246_11 (c : rz_fR h a 12 19) : rg Z d rx_m246 11 L (.ref a :: S) (rz_mk h ι, w) = rg Z d rx_m246 14 L (rz_rv h a 19 :: S) (rz_mk h ι, w) := rz_gR rfl (by decide) c
theorem g246_14 : rg Z d rx_m246 14 [l0, l1, some (.int x), l3] S (rz_mk h ι, w) = rg Z d rx_m246 15 [l0, l1, some (.int x), l3] (.int x :: S) (rz_mk h ι, w) := rz_s1 fun _ => rfl
theorem g246_15 (c : rz_ar h a 3) (hi : rz_ix x (rz_ln h a)) : rg Z d rx_m246 15 L (.int x :: .ref a :: S) (rz_mk h ι, w) = rg Z d rx_m246 16 L (rz_el h a x.toNatClampNeg :: S) (rz_mk h ι, w) := rz_aald (by decide) rfl c hi
theorem g246_16 : rg Z d rx_m246 16 L S (rz_mk h ι, w) = rg Z d rx_m246 17 L (.int 0 :: S) (rz_mk h ι, w) := rz_s1 fun _ => rfl
theorem g246_17 (c : rz_ar h a 0) (hi : rz_ix x (rz_ln h a)) : rg Z d rx_m246 17 L (.int x :: .ref a :: S) (rz_mk h ι, w) = rg Z d rx_m246 18 L (.int (ι a x.toNatClampNeg) :: S) (rz_mk h ι, w) := rz_iald rfl c hi
theorem g246_18 : rg Z d rx_m246 18 [l0, l1, some (.int z), l3] (.int x :: S) (rz_mk h ι, w) = rg Z d rx_m246 19 [l0, l1, some (.int z), some (.int x)] S (rz_mk h ι, w) := rz_s1 fun _ => rfl
theorem g246_19 : rg Z d rx_m246 19 [l0, l1, l2, some (.int x)] S (rz_mk h ι, w) = rg Z d rx_m246 20 [l0, l1, l2, some (.int x)] (.int x :: S) (rz_mk h ι, w) := rz_s1 fun _ => rfl
theorem g246_20 : rg Z d rx_m246 20 [some (.ref a), l1, l2, l3] S (rz_mk h ι, w) = rg Z d rx_m246 21 [some (.ref a), l1, l2, l3] (.ref a :: S) (rz_mk h ι, w) := rz_s1 fun _ => rfl
theorem g246_21 (c : rz_fR h a 12 25) : rg Z d rx_m246 21 L (.ref a :: S) (rz_mk h ι, w) = rg Z d rx_m246 24 L (rz_rv h a 25 :: S) (rz_mk h ι, w) := rz_gR rfl (by decide) c
theorem g246_24 : rg Z d rx_m246 24 L S (rz_mk h ι, w) = rg Z d rx_m246 26 L (.int 57 :: S) (rz_mk h ι, w) := rz_s1 fun _ => rfl
theorem g246_26 (c : rz_ar h a 0) (hi : rz_ix x (rz_ln h a)) : rg Z d rx_m246 26 L (.int x :: .ref a :: S) (rz_mk h ι, w) = rg Z d rx_m246 27 L (.int (ι a x.toNatClampNeg) :: S) (rz_mk h ι, w) := rz_iald rfl c hi
theorem g246_27 : rg Z d rx_m246 27 L (.int y :: .int x :: S) (rz_mk h ι, w) = if x < y then rg Z d rx_m246 30 L S (rz_mk h ι, w) else rg Z d rx_m246 65 L S (rz_mk h ι, w) := rz_if2 (pc := 27) (t := 65) (off := 38) (cc := .ge) (by decide) rfl
theorem g246_30 : rg Z d rx_m246 30 [some (.ref a), l1, l2, l3] S (rz_mk h ι, w) = rg Z d rx_m246 31 [some (.ref a), l1, l2, l3] (.ref a :: S) (rz_mk h ι, w) := rz_s1 fun _ => rfl
theorem g246_31 : rg Z d rx_m246 31 [some (.ref a), l1, l2, l3] S (rz_mk h ι, w) = rg Z d rx_m246 32 [some (.ref a), l1, l2, l3] (.ref a :: S) (rz_mk h ι, w) := rz_s1 fun _ => rfl
theorem g246_32 (c : rz_fR h a 12 25) : rg Z d rx_m246 32 L (.ref a :: S) (rz_mk h ι, w) = rg Z d rx_m246 35 L (rz_rv h a 25 :: S) (rz_mk h ι, w) := rz_gR rfl (by decide) c
theorem g246_35 : rg Z d rx_m246 35 [l0, l1, l2, some (.int x)] S (rz_mk h ι, w) = rg Z d rx_m246 36 [l0, l1, l2, some (.int x)] (.int x :: S) (rz_mk h ι, w) := rz_s1 fun _ => rfl
theorem g246_36 : rg Z d rx_m246 36 [l0, some (.int x), l2, l3] S (rz_mk h ι, w) = rg Z d rx_m246 37 [l0, some (.int x), l2, l3] (.int x :: S) (rz_mk h ι, w) := rz_s1 fun _ => rfl
theorem g246_37 : rg Z d rx_m246 37 L S (rz_mk h ι, w) = rg Z d rx_m246 39 L (.int 100 :: S) (rz_mk h ι, w) := rz_s1 fun _ => rfl
theorem g246_39 : rg Z d rx_m246 39 L (.int 100 :: .int x :: S) (rz_mk h ι, w) = rg Z d rx_m246 40 L (.int (x / 100) :: S) (rz_mk h ι, w) := rz_div rfl (by decide)
theorem g246_40 : rg Z d rx_m246 40 [l0, some (.int x), l2, l3] S (rz_mk h ι, w) = rg Z d rx_m246 41 [l0, some (.int x), l2, l3] (.int x :: S) (rz_mk h ι, w) := rz_s1 fun _ => rfl
theorem g246_41 : rg Z d rx_m246 41 L S (rz_mk h ι, w) = rg Z d rx_m246 43 L (.int 10 :: S) (rz_mk h ι, w) := rz_s1 fun _ => rfl
theorem g246_43 : rg Z d rx_m246 43 L (.int 10 :: .int x :: S) (rz_mk h ι, w) = rg Z d rx_m246 44 L (.int (x / 10) :: S) (rz_mk h ι, w) := rz_div rfl (by decide)
theorem g246_44 : rg Z d rx_m246 44 L S (rz_mk h ι, w) = rg Z d rx_m246 46 L (.int 10 :: S) (rz_mk h ι, w) := rz_s1 fun _ => rfl
theorem g246_46 : rg Z d rx_m246 46 L (.int 10 :: .int x :: S) (rz_mk h ι, w) = rg Z d rx_m246 47 L (.int (x - x / 10 * 10) :: S) (rz_mk h ι, w) := rz_rem rfl (by decide)
theorem g246_47 : rg Z d rx_m246 47 [l0, some (.int x), l2, l3] S (rz_mk h ι, w) = rg Z d rx_m246 48 [l0, some (.int x), l2, l3] (.int x :: S) (rz_mk h ι, w) := rz_s1 fun _ => rfl
theorem g246_48 : rg Z d rx_m246 48 L S (rz_mk h ι, w) = rg Z d rx_m246 50 L (.int 10 :: S) (rz_mk h ι, w) := rz_s1 fun _ => rfl
theorem g246_50 : rg Z d rx_m246 50 L (.int 10 :: .int x :: S) (rz_mk h ι, w) = rg Z d rx_m246 51 L (.int (x - x / 10 * 10) :: S) (rz_mk h ι, w) := rz_rem rfl (by decide)
theorem g246_51 (c : rz_oc h a 12) : rg Z d rx_m246 51 L (v5 :: v4 :: v3 :: v2 :: v1 :: .ref a :: []) (rz_mk h ι, w) = rz_k true (rz_f Z d 220 [.ref a, v1, v2, v3, v4, v5] (rz_mk h ι, w)) (fun v σ' => rg Z d rx_m246 54 L (v.toList ++ []) σ') := rz_cv (pc := 51) (n := 5) (mi := 220) (S := v5 :: v4 :: v3 :: v2 :: v1 :: .ref a :: []) (rest := []) rfl rfl (Nat.le_of_ble_eq_true rfl) (Nat.le_of_ble_eq_true rfl) c
theorem g246_54 : rg Z d rx_m246 54 [some (.ref a), l1, l2, l3] S (rz_mk h ι, w) = rg Z d rx_m246 55 [some (.ref a), l1, l2, l3] (.ref a :: S) (rz_mk h ι, w) := rz_s1 fun _ => rfl
theorem g246_55 (c : rz_fR h a 12 19) : rg Z d rx_m246 55 L (.ref a :: S) (rz_mk h ι, w) = rg Z d rx_m246 58 L (rz_rv h a 19 :: S) (rz_mk h ι, w) := rz_gR rfl (by decide) c
theorem g246_58 : rg Z d rx_m246 58 [l0, l1, some (.int x), l3] S (rz_mk h ι, w) = rg Z d rx_m246 59 [l0, l1, some (.int x), l3] (.int x :: S) (rz_mk h ι, w) := rz_s1 fun _ => rfl
theorem g246_59 (c : rz_ar h a 3) (hi : rz_ix x (rz_ln h a)) : rg Z d rx_m246 59 L (.int x :: .ref a :: S) (rz_mk h ι, w) = rg Z d rx_m246 60 L (rz_el h a x.toNatClampNeg :: S) (rz_mk h ι, w) := rz_aald (by decide) rfl c hi
theorem g246_60 : rg Z d rx_m246 60 L S (rz_mk h ι, w) = rg Z d rx_m246 61 L (.int 1 :: S) (rz_mk h ι, w) := rz_s1 fun _ => rfl
theorem g246_61 (c : rz_ar h a 0) (hi : rz_ix x (rz_ln h a)) : rg Z d rx_m246 61 L (.int x :: .ref a :: S) (rz_mk h ι, w) = rg Z d rx_m246 62 L (.int (ι a x.toNatClampNeg) :: S) (rz_mk h ι, w) := rz_iald rfl c hi
theorem g246_62 : rg Z d rx_m246 62 L (.int y :: .int x :: S) (rz_mk h ι, w) = if x = y then rg Z d rx_m246 67 L S (rz_mk h ι, w) else rg Z d rx_m246 65 L S (rz_mk h ι, w) := rz_if2 (pc := 62) (t := 67) (off := 5) (cc := .eq) (by decide) rfl
theorem g246_65 : rg Z d rx_m246 65 L S (rz_mk h ι, w) = rg Z d rx_m246 66 L (.int 0 :: S) (rz_mk h ι, w) := rz_s1 fun _ => rfl
theorem g246_66 (c : narrow .boolean (.int x) = .int x) : rg Z d rx_m246 66 L [.int x] (rz_mk h ι, w) = some (.inl (some (.int x)), (rz_mk h ι, w)) := rz_reti rfl rfl c
theorem g246_67 : rg Z d rx_m246 67 [l0, some (.int z), some (.int x), l3] S (rz_mk h ι, w) = rg Z d rx_m246 70 [l0, some (.int z), some (.int (x + 1)), l3] S (rz_mk h ι, w) := rz_s1 fun _ => rfl
theorem g246_70 : rg Z d rx_m246 70 L S (rz_mk h ι, w) = rg Z d rx_m246 2 L S (rz_mk h ι, w) := rz_s1 fun _ => rfl
theorem g246_73 : rg Z d rx_m246 73 L S (rz_mk h ι, w) = rg Z d rx_m246 74 L (.int 1 :: S) (rz_mk h ι, w) := rz_s1 fun _ => rfl
theorem g246_74 (c : narrow .boolean (.int x) = .int x) : rg Z d rx_m246 74 L [.int x] (rz_mk h ι, w) = some (.inl (some (.int x)), (rz_mk h ι, w)) := rz_reti rfl rfl c
theorem e246 : rz_f Z (d + 1) 246 [.ref t0, .int s1] σ = rg Z d rx_m246 0 [some (.ref t0), some (.int s1), none, none] [] σ := rz_f_eq rfl (Nat.le_of_ble_eq_true rfl)
theorem g247_0 : rg Z d rx_m247 0 [some (.ref a), l1, l2, l3, l4] S (rz_mk h ι, w) = rg Z d rx_m247 1 [some (.ref a), l1, l2, l3, l4] (.ref a :: S) (rz_mk h ι, w) := rz_s1 fun _ => rfl
theorem g247_1 : rg Z d rx_m247 1 L S (rz_mk h ι, w) = rg Z d rx_m247 2 L (.int 0 :: S) (rz_mk h ι, w) := rz_s1 fun _ => rfl
theorem g247_2 (c : rz_fI h a 12 0) (hz : Z.2.1 ≤ a) : rg Z d rx_m247 2 L (.int x :: .ref a :: S) (rz_mk h ι, w) = rg Z d rx_m247 5 L S (rz_mk h (rz_up ι a 0 x), w) := rz_pI rfl c hz
theorem g247_5 : rg Z d rx_m247 5 [some (.ref a), l1, l2, l3, l4] S (rz_mk h ι, w) = rg Z d rx_m247 6 [some (.ref a), l1, l2, l3, l4] (.ref a :: S) (rz_mk h ι, w) := rz_s1 fun _ => rfl
theorem g247_6 : rg Z d rx_m247 6 [l0, some (.int x), l2, l3, l4] S (rz_mk h ι, w) = rg Z d rx_m247 7 [l0, some (.int x), l2, l3, l4] (.int x :: S) (rz_mk h ι, w) := rz_s1 fun _ => rfl
theorem g247_7 : rg Z d rx_m247 7 L S (rz_mk h ι, w) = rg Z d rx_m247 8 L (.int 0 :: S) (rz_mk h ι, w) := rz_s1 fun _ => rfl
theorem g247_8 : rg Z d rx_m247 8 L S (rz_mk h ι, w) = rg Z d rx_m247 9 L (.int 1 :: S) (rz_mk h ι, w) := rz_s1 fun _ => rfl
theorem g247_9 : rg Z d rx_m247 9 L (v3 :: v2 :: v1 :: [.ref t0]) (rz_mk h ι, w) = rz_k true (rz_f Z d 175 [v1, v2, v3] (rz_mk h ι, w)) (fun v σ' => rg Z d rx_m247 12 L (v.toList ++ [.ref t0]) σ') := rz_cs (pc := 9) (n := 3) (mi := 175) (S := v3 :: v2 :: v1 :: [.ref t0]) (rest := [.ref t0]) rfl rfl (Nat.le_of_ble_eq_true rfl) (Nat.le_of_ble_eq_true rfl)
theorem g247_12 : rg Z d rx_m247 12 L (.int x :: S) (rz_mk h ι, w) = if x = 0 then rg Z d rx_m247 15 L S (rz_mk h ι, w) else rg Z d rx_m247 19 L S (rz_mk h ι, w) := rz_if1 (pc := 12) (t := 19) (off := 7) (cc := .ne) (by decide) rfl
theorem g247_15 : rg Z d rx_m247 15 L S (rz_mk h ι, w) = rg Z d rx_m247 16 L (.int 1 :: S) (rz_mk h ι, w) := rz_s1 fun _ => rfl
theorem g247_16 : rg Z d rx_m247 16 L S (rz_mk h ι, w) = rg Z d rx_m247 20 L S (rz_mk h ι, w) := rz_s1 fun _ => rfl
theorem g247_19 : rg Z d rx_m247 19 L S (rz_mk h ι, w) = rg Z d rx_m247 20 L (.int 0 :: S) (rz_mk h ι, w) := rz_s1 fun _ => rfl
theorem g247_20 : rg Z d rx_m247 20 L S (rz_mk h ι, w) = rg Z d rx_m247 21 L (.int 1 :: S) (rz_mk h ι, w) := rz_s1 fun _ => rfl
theorem g247_21 : rg Z d rx_m247 21 L S (rz_mk h ι, w) = rg Z d rx_m247 22 L (.int 1 :: S) (rz_mk h ι, w) := rz_s1 fun _ => rfl
theorem g247_22 (c : rz_oc h a 12) : rg Z d rx_m247 22 L (v3 :: v2 :: v1 :: .ref a :: []) (rz_mk h ι, w) = rz_k true (rz_f Z d 174 [.ref a, v1, v2, v3] (rz_mk h ι, w)) (fun v σ' => rg Z d rx_m247 25 L (v.toList ++ []) σ') := rz_cv (pc := 22) (n := 3) (mi := 174) (S := v3 :: v2 :: v1 :: .ref a :: []) (rest := []) rfl rfl (Nat.le_of_ble_eq_true rfl) (Nat.le_of_ble_eq_true rfl) c
theorem g247_25 : rg Z d rx_m247 25 L (.int x :: S) (rz_mk h ι, w) = if x = 0 then rg Z d rx_m247 30 L S (rz_mk h ι, w) else rg Z d rx_m247 28 L S (rz_mk h ι, w) := rz_if1 (pc := 25) (t := 30) (off := 5) (cc := .eq) (by decide) rfl
theorem g247_28 : rg Z d rx_m247 28 L S (rz_mk h ι, w) = rg Z d rx_m247 29 L (.int 0 :: S) (rz_mk h ι, w) := rz_s1 fun _ => rfl
theorem g247_29 : rg Z d rx_m247 29 L [.int x] (rz_mk h ι, w) = some (.inl (some (.int x)), (rz_mk h ι, w)) := rz_reti rfl rfl rfl
theorem g247_30 : rg Z d rx_m247 30 L S (rz_mk h ι, w) = rg Z d rx_m247 31 L (.int 0 :: S) (rz_mk h ι, w) := rz_s1 fun _ => rfl
theorem g247_31 : rg Z d rx_m247 31 [l0, some (.int z), l2, l3, l4] (.int x :: S) (rz_mk h ι, w) = rg Z d rx_m247 32 [l0, some (.int z), some (.int x), l3, l4] S (rz_mk h ι, w) := rz_s1 fun _ => rfl
theorem g247_32 : rg Z d rx_m247 32 L S (rz_mk h ι, w) = rg Z d rx_m247 33 L (.int (-1) :: S) (rz_mk h ι, w) := rz_s1 fun _ => rfl
theorem g247_33 : rg Z d rx_m247 33 [l0, l1, some (.int z), l3, l4] (.int x :: S) (rz_mk h ι, w) = rg Z d rx_m247 34 [l0, l1, some (.int z), some (.int x), l4] S (rz_mk h ι, w) := rz_s1 fun _ => rfl
theorem g247_34 : rg Z d rx_m247 34 L S (rz_mk h ι, w) = rg Z d rx_m247 35 L (.int 0 :: S) (rz_mk h ι, w) := rz_s1 fun _ => rfl
theorem g247_35 : rg Z d rx_m247 35 [l0, l1, l2, some (.int z), l4] (.int x :: S) (rz_mk h ι, w) = rg Z d rx_m247 37 [l0, l1, l2, some (.int z), some (.int x)] S (rz_mk h ι, w) := rz_s1 fun _ => rfl
theorem g247_37 : rg Z d rx_m247 37 [l0, l1, l2, l3, some (.int x)] S (rz_mk h ι, w) = rg Z d rx_m247 39 [l0, l1, l2, l3, some (.int x)] (.int x :: S) (rz_mk h ι, w) := rz_s1 fun _ => rfl
theorem g247_39 : rg Z d rx_m247 39 L S (rz_mk h ι, w) = rg Z d rx_m247 42 L (.int 1000 :: S) (rz_mk h ι, w) := rz_s1 fun _ => rfl
theorem g247_42 : rg Z d rx_m247 42 L (.int y :: .int x :: S) (rz_mk h ι, w) = if x < y then rg Z d rx_m247 45 L S (rz_mk h ι, w) else rg Z d rx_m247 77 L S (rz_mk h ι, w) := rz_if2 (pc := 42) (t := 77) (off := 35) (cc := .ge) (by decide) rfl
theorem g247_45 : rg Z d rx_m247 45 [some (.ref a), l1, l2, l3, l4] S (rz_mk h ι, w) = rg Z d rx_m247 46 [some (.ref a), l1, l2, l3, l4] (.ref a :: S) (rz_mk h ι, w) := rz_s1 fun _ => rfl
theorem g247_46 : rg Z d rx_m247 46 [l0, l1, l2, l3, some (.int x)] S (rz_mk h ι, w) = rg Z d rx_m247 48 [l0, l1, l2, l3, some (.int x)] (.int x :: S) (rz_mk h ι, w) := rz_s1 fun _ => rfl
theorem g247_48 (c : rz_oc h a 12) : rg Z d rx_m247 48 L (v1 :: .ref a :: []) (rz_mk h ι, w) = rz_k true (rz_f Z d 246 [.ref a, v1] (rz_mk h ι, w)) (fun v σ' => rg Z d rx_m247 51 L (v.toList ++ []) σ') := rz_cv (pc := 48) (n := 1) (mi := 246) (S := v1 :: .ref a :: []) (rest := []) rfl rfl (Nat.le_of_ble_eq_true rfl) (Nat.le_of_ble_eq_true rfl) c
theorem g247_51 : rg Z d rx_m247 51 L (.int x :: S) (rz_mk h ι, w) = if x = 0 then rg Z d rx_m247 54 L S (rz_mk h ι, w) else rg Z d rx_m247 57 L S (rz_mk h ι, w) := rz_if1 (pc := 51) (t := 57) (off := 6) (cc := .ne) (by decide) rfl
theorem g247_54 : rg Z d rx_m247 54 L S (rz_mk h ι, w) = rg Z d rx_m247 71 L S (rz_mk h ι, w) := rz_s1 fun _ => rfl
theorem g247_57 : rg Z d rx_m247 57 [l0, l1, some (.int x), l3, l4] S (rz_mk h ι, w) = rg Z d rx_m247 58 [l0, l1, some (.int x), l3, l4] (.int x :: S) (rz_mk h ι, w) := rz_s1 fun _ => rfl
theorem g247_58 : rg Z d rx_m247 58 L (.int x :: S) (rz_mk h ι, w) = if x = 0 then rg Z d rx_m247 61 L S (rz_mk h ι, w) else rg Z d rx_m247 66 L S (rz_mk h ι, w) := rz_if1 (pc := 58) (t := 66) (off := 8) (cc := .ne) (by decide) rfl
theorem g247_61 : rg Z d rx_m247 61 [l0, l1, l2, l3, some (.int x)] S (rz_mk h ι, w) = rg Z d rx_m247 63 [l0, l1, l2, l3, some (.int x)] (.int x :: S) (rz_mk h ι, w) := rz_s1 fun _ => rfl
theorem g247_63 : rg Z d rx_m247 63 L S (rz_mk h ι, w) = rg Z d rx_m247 67 L S (rz_mk h ι, w) := rz_s1 fun _ => rfl
theorem g247_66 : rg Z d rx_m247 66 [l0, l1, l2, some (.int x), l4] S (rz_mk h ι, w) = rg Z d rx_m247 67 [l0, l1, l2, some (.int x), l4] (.int x :: S) (rz_mk h ι, w) := rz_s1 fun _ => rfl
theorem g247_67 : rg Z d rx_m247 67 [l0, l1, some (.int z), l3, l4] (.int x :: S) (rz_mk h ι, w) = rg Z d rx_m247 68 [l0, l1, some (.int z), some (.int x), l4] S (rz_mk h ι, w) := rz_s1 fun _ => rfl
theorem g247_68 : rg Z d rx_m247 68 [l0, some (.int z), some (.int x), l3, l4] S (rz_mk h ι, w) = rg Z d rx_m247 71 [l0, some (.int z), some (.int (x + 1)), l3, l4] S (rz_mk h ι, w) := rz_s1 fun _ => rfl
theorem g247_71 : rg Z d rx_m247 71 [l0, l1, l2, some (.int z), some (.int x)] S (rz_mk h ι, w) = rg Z d rx_m247 74 [l0, l1, l2, some (.int z), some (.int (x + 1))] S (rz_mk h ι, w) := rz_s1 fun _ => rfl
theorem g247_74 : rg Z d rx_m247 74 L S (rz_mk h ι, w) = rg Z d rx_m247 37 L S (rz_mk h ι, w) := rz_s1 fun _ => rfl
theorem g247_77 : rg Z d rx_m247 77 [l0, some (.int x), l2, l3, l4] S (rz_mk h ι, w) = rg Z d rx_m247 78 [l0, some (.int x), l2, l3, l4] (.int x :: S) (rz_mk h ι, w) := rz_s1 fun _ => rfl
theorem g247_78 : rg Z d rx_m247 78 L (.int x :: S) (rz_mk h ι, w) = if x = 0 then rg Z d rx_m247 81 L S (rz_mk h ι, w) else rg Z d rx_m247 85 L S (rz_mk h ι, w) := rz_if1 (pc := 78) (t := 85) (off := 7) (cc := .ne) (by decide) rfl
theorem g247_81 : rg Z d rx_m247 81 [l0, l1, some (.int x), l3, l4] S (rz_mk h ι, w) = rg Z d rx_m247 82 [l0, l1, some (.int x), l3, l4] (.int x :: S) (rz_mk h ι, w) := rz_s1 fun _ => rfl
theorem g247_82 : rg Z d rx_m247 82 L S (rz_mk h ι, w) = rg Z d rx_m247 86 L S (rz_mk h ι, w) := rz_s1 fun _ => rfl
theorem g247_85 : rg Z d rx_m247 85 [l0, l1, l2, some (.int x), l4] S (rz_mk h ι, w) = rg Z d rx_m247 86 [l0, l1, l2, some (.int x), l4] (.int x :: S) (rz_mk h ι, w) := rz_s1 fun _ => rfl
theorem g247_86 : rg Z d rx_m247 86 L [.int x] (rz_mk h ι, w) = some (.inl (some (.int x)), (rz_mk h ι, w)) := rz_reti rfl rfl rfl
theorem e247 : rz_f Z (d + 1) 247 [.ref t0, .int s1] σ = rg Z d rx_m247 0 [some (.ref t0), some (.int s1), none, none, none] [] σ := rz_f_eq rfl (Nat.le_of_ble_eq_true rfl)
theorem g248_0 : rg Z d rx_m248 0 L S (rz_mk h ι, w) = rg Z d rx_m248 1 L (.int 0 :: S) (rz_mk h ι, w) := rz_s1 fun _ => rfl
theorem g248_1 : rg Z d rx_m248 1 [l0, some (.int z), l2] (.int x :: S) (rz_mk h ι, w) = rg Z d rx_m248 2 [l0, some (.int z), some (.int x)] S (rz_mk h ι, w) := rz_s1 fun _ => rfl
theorem g248_2 : rg Z d rx_m248 2 [l0, l1, some (.int x)] S (rz_mk h ι, w) = rg Z d rx_m248 3 [l0, l1, some (.int x)] (.int x :: S) (rz_mk h ι, w) := rz_s1 fun _ => rfl
theorem g248_3 : rg Z d rx_m248 3 [some (.ref a), l1, l2] S (rz_mk h ι, w) = rg Z d rx_m248 4 [some (.ref a), l1, l2] (.ref a :: S) (rz_mk h ι, w) := rz_s1 fun _ => rfl
theorem g248_4 (c : rz_fI h a 12 29) : rg Z d rx_m248 4 L (.ref a :: S) (rz_mk h ι, w) = rg Z d rx_m248 7 L (.int (ι a 29) :: S) (rz_mk h ι, w) := rz_gI rfl (by decide) c
theorem g248_7 : rg Z d rx_m248 7 L (.int y :: .int x :: S) (rz_mk h ι, w) = if x < y then rg Z d rx_m248 10 L S (rz_mk h ι, w) else rg Z d rx_m248 30 L S (rz_mk h ι, w) := rz_if2 (pc := 7) (t := 30) (off := 23) (cc := .ge) (by decide) rfl
theorem g248_10 : rg Z d rx_m248 10 [some (.ref a), l1, l2] S (rz_mk h ι, w) = rg Z d rx_m248 11 [some (.ref a), l1, l2] (.ref a :: S) (rz_mk h ι, w) := rz_s1 fun _ => rfl
theorem g248_11 (c : rz_fR h a 12 19) : rg Z d rx_m248 11 L (.ref a :: S) (rz_mk h ι, w) = rg Z d rx_m248 14 L (rz_rv h a 19 :: S) (rz_mk h ι, w) := rz_gR rfl (by decide) c
theorem g248_14 : rg Z d rx_m248 14 [l0, l1, some (.int x)] S (rz_mk h ι, w) = rg Z d rx_m248 15 [l0, l1, some (.int x)] (.int x :: S) (rz_mk h ι, w) := rz_s1 fun _ => rfl
theorem g248_15 (c : rz_ar h a 3) (hi : rz_ix x (rz_ln h a)) : rg Z d rx_m248 15 L (.int x :: .ref a :: S) (rz_mk h ι, w) = rg Z d rx_m248 16 L (rz_el h a x.toNatClampNeg :: S) (rz_mk h ι, w) := rz_aald (by decide) rfl c hi
theorem g248_16 : rg Z d rx_m248 16 L S (rz_mk h ι, w) = rg Z d rx_m248 17 L (.int 0 :: S) (rz_mk h ι, w) := rz_s1 fun _ => rfl
theorem g248_17 (c : rz_ar h a 0) (hi : rz_ix x (rz_ln h a)) : rg Z d rx_m248 17 L (.int x :: .ref a :: S) (rz_mk h ι, w) = rg Z d rx_m248 18 L (.int (ι a x.toNatClampNeg) :: S) (rz_mk h ι, w) := rz_iald rfl c hi
theorem g248_18 : rg Z d rx_m248 18 [l0, some (.int x), l2] S (rz_mk h ι, w) = rg Z d rx_m248 19 [l0, some (.int x), l2] (.int x :: S) (rz_mk h ι, w) := rz_s1 fun _ => rfl
theorem g248_19 : rg Z d rx_m248 19 L (.int y :: .int x :: S) (rz_mk h ι, w) = if x = y then rg Z d rx_m248 22 L S (rz_mk h ι, w) else rg Z d rx_m248 24 L S (rz_mk h ι, w) := rz_if2 (pc := 19) (t := 24) (off := 5) (cc := .ne) (by decide) rfl
theorem g248_22 : rg Z d rx_m248 22 L S (rz_mk h ι, w) = rg Z d rx_m248 23 L (.int 1 :: S) (rz_mk h ι, w) := rz_s1 fun _ => rfl
theorem g248_23 (c : narrow .boolean (.int x) = .int x) : rg Z d rx_m248 23 L [.int x] (rz_mk h ι, w) = some (.inl (some (.int x)), (rz_mk h ι, w)) := rz_reti rfl rfl c
theorem g248_24 : rg Z d rx_m248 24 [l0, some (.int z), some (.int x)] S (rz_mk h ι, w) = rg Z d rx_m248 27 [l0, some (.int z), some (.int (x + 1))] S (rz_mk h ι, w) := rz_s1 fun _ => rfl
theorem g248_27 : rg Z d rx_m248 27 L S (rz_mk h ι, w) = rg Z d rx_m248 2 L S (rz_mk h ι, w) := rz_s1 fun _ => rfl
theorem g248_30 : rg Z d rx_m248 30 L S (rz_mk h ι, w) = rg Z d rx_m248 31 L (.int 0 :: S) (rz_mk h ι, w) := rz_s1 fun _ => rfl
theorem g248_31 (c : narrow .boolean (.int x) = .int x) : rg Z d rx_m248 31 L [.int x] (rz_mk h ι, w) = some (.inl (some (.int x)), (rz_mk h ι, w)) := rz_reti rfl rfl c
theorem e248 : rz_f Z (d + 1) 248 [.ref t0, .int s1] σ = rg Z d rx_m248 0 [some (.ref t0), some (.int s1), none] [] σ := rz_f_eq rfl (Nat.le_of_ble_eq_true rfl)
theorem g249_0 : rg Z d rx_m249 0 L S (rz_mk h ι, w) = rg Z d rx_m249 1 L (.int 0 :: S) (rz_mk h ι, w) := rz_s1 fun _ => rfl
theorem g249_1 : rg Z d rx_m249 1 [l0, some (.int z), l2, l3, l4] (.int x :: S) (rz_mk h ι, w) = rg Z d rx_m249 2 [l0, some (.int z), some (.int x), l3, l4] S (rz_mk h ι, w) := rz_s1 fun _ => rfl
theorem g249_2 : rg Z d rx_m249 2 L S (rz_mk h ι, w) = rg Z d rx_m249 3 L (.int 0 :: S) (rz_mk h ι, w) := rz_s1 fun _ => rfl
theorem g249_3 : rg Z d rx_m249 3 [l0, l1, some (.int z), l3, l4] (.int x :: S) (rz_mk h ι, w) = rg Z d rx_m249 4 [l0, l1, some (.int z), some (.int x), l4] S (rz_mk h ι, w) := rz_s1 fun _ => rfl
theorem g249_4 : rg Z d rx_m249 4 [l0, l1, l2, some (.int x), l4] S (rz_mk h ι, w) = rg Z d rx_m249 5 [l0, l1, l2, some (.int x), l4] (.int x :: S) (rz_mk h ι, w) := rz_s1 fun _ => rfl
theorem g249_5 : rg Z d rx_m249 5 L S (rz_mk h ι, w) = rg Z d rx_m249 7 L (.int 99 :: S) (rz_mk h ι, w) := rz_s1 fun _ => rfl
theorem g249_7 : rg Z d rx_m249 7 L (.int y :: .int x :: S) (rz_mk h ι, w) = if y < x then rg Z d rx_m249 23 L S (rz_mk h ι, w) else rg Z d rx_m249 10 L S (rz_mk h ι, w) := rz_if2 (pc := 7) (t := 23) (off := 16) (cc := .gt) (by decide) rfl
theorem g249_10 : rg Z d rx_m249 10 [some (.ref a), l1, l2, l3, l4] S (rz_mk h ι, w) = rg Z d rx_m249 11 [some (.ref a), l1, l2, l3, l4] (.ref a :: S) (rz_mk h ι, w) := rz_s1 fun _ => rfl
theorem g249_11 (c : rz_fR h a 12 36) : rg Z d rx_m249 11 L (.ref a :: S) (rz_mk h ι, w) = rg Z d rx_m249 14 L (rz_rv h a 36 :: S) (rz_mk h ι, w) := rz_gR rfl (by decide) c
theorem g249_14 : rg Z d rx_m249 14 [l0, l1, l2, some (.int x), l4] S (rz_mk h ι, w) = rg Z d rx_m249 15 [l0, l1, l2, some (.int x), l4] (.int x :: S) (rz_mk h ι, w) := rz_s1 fun _ => rfl
theorem g249_15 : rg Z d rx_m249 15 L S (rz_mk h ι, w) = rg Z d rx_m249 16 L (.int 0 :: S) (rz_mk h ι, w) := rz_s1 fun _ => rfl
theorem g249_16 (c : rz_ar h a 0) (hi : rz_ix x (rz_ln h a)) (hz : Z.2.1 ≤ a) : rg Z d rx_m249 16 L (.int y :: .int x :: .ref a :: S) (rz_mk h ι, w) = rg Z d rx_m249 17 L S (rz_mk h (rz_up ι a x.toNatClampNeg y), w) := rz_iast rfl c hi hz
theorem g249_17 : rg Z d rx_m249 17 [l0, l1, some (.int z), some (.int x), l4] S (rz_mk h ι, w) = rg Z d rx_m249 20 [l0, l1, some (.int z), some (.int (x + 1)), l4] S (rz_mk h ι, w) := rz_s1 fun _ => rfl
theorem g249_20 : rg Z d rx_m249 20 L S (rz_mk h ι, w) = rg Z d rx_m249 4 L S (rz_mk h ι, w) := rz_s1 fun _ => rfl
theorem g249_23 : rg Z d rx_m249 23 L S (rz_mk h ι, w) = rg Z d rx_m249 24 L (.int 0 :: S) (rz_mk h ι, w) := rz_s1 fun _ => rfl
theorem g249_24 : rg Z d rx_m249 24 [l0, l1, some (.int z), l3, l4] (.int x :: S) (rz_mk h ι, w) = rg Z d rx_m249 25 [l0, l1, some (.int z), some (.int x), l4] S (rz_mk h ι, w) := rz_s1 fun _ => rfl
theorem g249_25 : rg Z d rx_m249 25 [l0, l1, l2, some (.int x), l4] S (rz_mk h ι, w) = rg Z d rx_m249 26 [l0, l1, l2, some (.int x), l4] (.int x :: S) (rz_mk h ι, w) := rz_s1 fun _ => rfl
theorem g249_26 : rg Z d rx_m249 26 L S (rz_mk h ι, w) = rg Z d rx_m249 29 L (.int 1000 :: S) (rz_mk h ι, w) := rz_s1 fun _ => rfl
theorem g249_29 : rg Z d rx_m249 29 L (.int y :: .int x :: S) (rz_mk h ι, w) = if x < y then rg Z d rx_m249 32 L S (rz_mk h ι, w) else rg Z d rx_m249 98 L S (rz_mk h ι, w) := rz_if2 (pc := 29) (t := 98) (off := 69) (cc := .ge) (by decide) rfl
theorem g249_32 : rg Z d rx_m249 32 [some (.ref a), l1, l2, l3, l4] S (rz_mk h ι, w) = rg Z d rx_m249 33 [some (.ref a), l1, l2, l3, l4] (.ref a :: S) (rz_mk h ι, w) := rz_s1 fun _ => rfl
theorem g249_33 : rg Z d rx_m249 33 [l0, l1, l2, some (.int x), l4] S (rz_mk h ι, w) = rg Z d rx_m249 34 [l0, l1, l2, some (.int x), l4] (.int x :: S) (rz_mk h ι, w) := rz_s1 fun _ => rfl
theorem g249_34 (c : rz_oc h a 12) : rg Z d rx_m249 34 L (v1 :: .ref a :: []) (rz_mk h ι, w) = rz_k true (rz_f Z d 246 [.ref a, v1] (rz_mk h ι, w)) (fun v σ' => rg Z d rx_m249 37 L (v.toList ++ []) σ') := rz_cv (pc := 34) (n := 1) (mi := 246) (S := v1 :: .ref a :: []) (rest := []) rfl rfl (Nat.le_of_ble_eq_true rfl) (Nat.le_of_ble_eq_true rfl) c
theorem g249_37 : rg Z d rx_m249 37 L (.int x :: S) (rz_mk h ι, w) = if x = 0 then rg Z d rx_m249 40 L S (rz_mk h ι, w) else rg Z d rx_m249 43 L S (rz_mk h ι, w) := rz_if1 (pc := 37) (t := 43) (off := 6) (cc := .ne) (by decide) rfl
theorem g249_40 : rg Z d rx_m249 40 L S (rz_mk h ι, w) = rg Z d rx_m249 92 L S (rz_mk h ι, w) := rz_s1 fun _ => rfl
theorem g249_43 : rg Z d rx_m249 43 [some (.ref a), l1, l2, l3, l4] S (rz_mk h ι, w) = rg Z d rx_m249 44 [some (.ref a), l1, l2, l3, l4] (.ref a :: S) (rz_mk h ι, w) := rz_s1 fun _ => rfl
theorem g249_44 : rg Z d rx_m249 44 [some (.ref a), l1, l2, l3, l4] S (rz_mk h ι, w) = rg Z d rx_m249 45 [some (.ref a), l1, l2, l3, l4] (.ref a :: S) (rz_mk h ι, w) := rz_s1 fun _ => rfl
theorem g249_45 (c : rz_fR h a 12 25) : rg Z d rx_m249 45 L (.ref a :: S) (rz_mk h ι, w) = rg Z d rx_m249 48 L (rz_rv h a 25 :: S) (rz_mk h ι, w) := rz_gR rfl (by decide) c
theorem g249_48 : rg Z d rx_m249 48 [l0, some (.int x), l2, l3, l4] S (rz_mk h ι, w) = rg Z d rx_m249 49 [l0, some (.int x), l2, l3, l4] (.int x :: S) (rz_mk h ι, w) := rz_s1 fun _ => rfl
theorem g249_49 : rg Z d rx_m249 49 [l0, l1, l2, some (.int x), l4] S (rz_mk h ι, w) = rg Z d rx_m249 50 [l0, l1, l2, some (.int x), l4] (.int x :: S) (rz_mk h ι, w) := rz_s1 fun _ => rfl
theorem g249_50 : rg Z d rx_m249 50 L S (rz_mk h ι, w) = rg Z d rx_m249 52 L (.int 100 :: S) (rz_mk h ι, w) := rz_s1 fun _ => rfl
theorem g249_52 : rg Z d rx_m249 52 L (.int 100 :: .int x :: S) (rz_mk h ι, w) = rg Z d rx_m249 53 L (.int (x / 100) :: S) (rz_mk h ι, w) := rz_div rfl (by decide)
theorem g249_53 : rg Z d rx_m249 53 [l0, l1, l2, some (.int x), l4] S (rz_mk h ι, w) = rg Z d rx_m249 54 [l0, l1, l2, some (.int x), l4] (.int x :: S) (rz_mk h ι, w) := rz_s1 fun _ => rfl
theorem g249_54 : rg Z d rx_m249 54 L S (rz_mk h ι, w) = rg Z d rx_m249 56 L (.int 10 :: S) (rz_mk h ι, w) := rz_s1 fun _ => rfl
theorem g249_56 : rg Z d rx_m249 56 L (.int 10 :: .int x :: S) (rz_mk h ι, w) = rg Z d rx_m249 57 L (.int (x / 10) :: S) (rz_mk h ι, w) := rz_div rfl (by decide)
theorem g249_57 : rg Z d rx_m249 57 L S (rz_mk h ι, w) = rg Z d rx_m249 59 L (.int 10 :: S) (rz_mk h ι, w) := rz_s1 fun _ => rfl
theorem g249_59 : rg Z d rx_m249 59 L (.int 10 :: .int x :: S) (rz_mk h ι, w) = rg Z d rx_m249 60 L (.int (x - x / 10 * 10) :: S) (rz_mk h ι, w) := rz_rem rfl (by decide)
theorem g249_60 : rg Z d rx_m249 60 [l0, l1, l2, some (.int x), l4] S (rz_mk h ι, w) = rg Z d rx_m249 61 [l0, l1, l2, some (.int x), l4] (.int x :: S) (rz_mk h ι, w) := rz_s1 fun _ => rfl
theorem g249_61 : rg Z d rx_m249 61 L S (rz_mk h ι, w) = rg Z d rx_m249 63 L (.int 10 :: S) (rz_mk h ι, w) := rz_s1 fun _ => rfl
theorem g249_63 : rg Z d rx_m249 63 L (.int 10 :: .int x :: S) (rz_mk h ι, w) = rg Z d rx_m249 64 L (.int (x - x / 10 * 10) :: S) (rz_mk h ι, w) := rz_rem rfl (by decide)
theorem g249_64 (c : rz_oc h a 12) : rg Z d rx_m249 64 L (v5 :: v4 :: v3 :: v2 :: v1 :: .ref a :: []) (rz_mk h ι, w) = rz_k true (rz_f Z d 220 [.ref a, v1, v2, v3, v4, v5] (rz_mk h ι, w)) (fun v σ' => rg Z d rx_m249 67 L (v.toList ++ []) σ') := rz_cv (pc := 64) (n := 5) (mi := 220) (S := v5 :: v4 :: v3 :: v2 :: v1 :: .ref a :: []) (rest := []) rfl rfl (Nat.le_of_ble_eq_true rfl) (Nat.le_of_ble_eq_true rfl) c
theorem g249_67 : rg Z d rx_m249 67 [l0, l1, l2, some (.int z), l4] (.int x :: S) (rz_mk h ι, w) = rg Z d rx_m249 69 [l0, l1, l2, some (.int z), some (.int x)] S (rz_mk h ι, w) := rz_s1 fun _ => rfl
theorem g249_69 : rg Z d rx_m249 69 [some (.ref a), l1, l2, l3, l4] S (rz_mk h ι, w) = rg Z d rx_m249 70 [some (.ref a), l1, l2, l3, l4] (.ref a :: S) (rz_mk h ι, w) := rz_s1 fun _ => rfl
theorem g249_70 (c : rz_fR h a 12 36) : rg Z d rx_m249 70 L (.ref a :: S) (rz_mk h ι, w) = rg Z d rx_m249 73 L (rz_rv h a 36 :: S) (rz_mk h ι, w) := rz_gR rfl (by decide) c
theorem g249_73 : rg Z d rx_m249 73 [l0, l1, l2, l3, some (.int x)] S (rz_mk h ι, w) = rg Z d rx_m249 75 [l0, l1, l2, l3, some (.int x)] (.int x :: S) (rz_mk h ι, w) := rz_s1 fun _ => rfl
theorem g249_75 : rg Z d rx_m249 75 L (.int x :: .ref b :: S) (rz_mk h ι, w) = rg Z d rx_m249 76 L (.int x :: .ref b :: .int x :: .ref b :: S) (rz_mk h ι, w) := rz_s1 fun _ => rfl
theorem g249_76 (c : rz_ar h a 0) (hi : rz_ix x (rz_ln h a)) : rg Z d rx_m249 76 L (.int x :: .ref a :: S) (rz_mk h ι, w) = rg Z d rx_m249 77 L (.int (ι a x.toNatClampNeg) :: S) (rz_mk h ι, w) := rz_iald rfl c hi
theorem g249_77 : rg Z d rx_m249 77 L S (rz_mk h ι, w) = rg Z d rx_m249 78 L (.int 1 :: S) (rz_mk h ι, w) := rz_s1 fun _ => rfl
theorem g249_78 : rg Z d rx_m249 78 L (.int y :: .int x :: S) (rz_mk h ι, w) = rg Z d rx_m249 79 L (.int (x + y) :: S) (rz_mk h ι, w) := rz_s1 fun _ => rfl
theorem g249_79 (c : rz_ar h a 0) (hi : rz_ix x (rz_ln h a)) (hz : Z.2.1 ≤ a) : rg Z d rx_m249 79 L (.int y :: .int x :: .ref a :: S) (rz_mk h ι, w) = rg Z d rx_m249 80 L S (rz_mk h (rz_up ι a x.toNatClampNeg y), w) := rz_iast rfl c hi hz
theorem g249_80 : rg Z d rx_m249 80 [l0, l1, some (.int x), l3, l4] S (rz_mk h ι, w) = rg Z d rx_m249 81 [l0, l1, some (.int x), l3, l4] (.int x :: S) (rz_mk h ι, w) := rz_s1 fun _ => rfl
theorem g249_81 : rg Z d rx_m249 81 [some (.ref a), l1, l2, l3, l4] S (rz_mk h ι, w) = rg Z d rx_m249 82 [some (.ref a), l1, l2, l3, l4] (.ref a :: S) (rz_mk h ι, w) := rz_s1 fun _ => rfl
theorem g249_82 (c : rz_fR h a 12 36) : rg Z d rx_m249 82 L (.ref a :: S) (rz_mk h ι, w) = rg Z d rx_m249 85 L (rz_rv h a 36 :: S) (rz_mk h ι, w) := rz_gR rfl (by decide) c
theorem g249_85 : rg Z d rx_m249 85 [l0, l1, l2, l3, some (.int x)] S (rz_mk h ι, w) = rg Z d rx_m249 87 [l0, l1, l2, l3, some (.int x)] (.int x :: S) (rz_mk h ι, w) := rz_s1 fun _ => rfl
theorem g249_87 (c : rz_ar h a 0) (hi : rz_ix x (rz_ln h a)) : rg Z d rx_m249 87 L (.int x :: .ref a :: S) (rz_mk h ι, w) = rg Z d rx_m249 88 L (.int (ι a x.toNatClampNeg) :: S) (rz_mk h ι, w) := rz_iald rfl c hi
theorem g249_88 : rg Z d rx_m249 88 L (v2 :: v1 :: []) (rz_mk h ι, w) = rz_k true (rz_f Z d 177 [v1, v2] (rz_mk h ι, w)) (fun v σ' => rg Z d rx_m249 91 L (v.toList ++ []) σ') := rz_cs (pc := 88) (n := 2) (mi := 177) (S := v2 :: v1 :: []) (rest := []) rfl rfl (Nat.le_of_ble_eq_true rfl) (Nat.le_of_ble_eq_true rfl)
theorem g249_91 : rg Z d rx_m249 91 [l0, some (.int z), l2, l3, l4] (.int x :: S) (rz_mk h ι, w) = rg Z d rx_m249 92 [l0, some (.int z), some (.int x), l3, l4] S (rz_mk h ι, w) := rz_s1 fun _ => rfl
theorem g249_92 : rg Z d rx_m249 92 [l0, l1, some (.int z), some (.int x), l4] S (rz_mk h ι, w) = rg Z d rx_m249 95 [l0, l1, some (.int z), some (.int (x + 1)), l4] S (rz_mk h ι, w) := rz_s1 fun _ => rfl
theorem g249_95 : rg Z d rx_m249 95 L S (rz_mk h ι, w) = rg Z d rx_m249 25 L S (rz_mk h ι, w) := rz_s1 fun _ => rfl
theorem g249_98 : rg Z d rx_m249 98 [l0, l1, some (.int x), l3, l4] S (rz_mk h ι, w) = rg Z d rx_m249 99 [l0, l1, some (.int x), l3, l4] (.int x :: S) (rz_mk h ι, w) := rz_s1 fun _ => rfl
theorem g249_99 : rg Z d rx_m249 99 L [.int x] (rz_mk h ι, w) = some (.inl (some (.int x)), (rz_mk h ι, w)) := rz_reti rfl rfl rfl
theorem e249 : rz_f Z (d + 1) 249 [.ref t0, .int s1] σ = rg Z d rx_m249 0 [some (.ref t0), some (.int s1), none, none, none] [] σ := rz_f_eq rfl (Nat.le_of_ble_eq_true rfl)
theorem g250_0 : rg Z d rx_m250 0 [some (.ref a), l1, l2, l3, l4, l5] S (rz_mk h ι, w) = rg Z d rx_m250 1 [some (.ref a), l1, l2, l3, l4, l5] (.ref a :: S) (rz_mk h ι, w) := rz_s1 fun _ => rfl
theorem g250_1 : rg Z d rx_m250 1 L S (rz_mk h ι, w) = rg Z d rx_m250 2 L (.int 0 :: S) (rz_mk h ι, w) := rz_s1 fun _ => rfl
theorem g250_2 (c : rz_fI h a 12 0) (hz : Z.2.1 ≤ a) : rg Z d rx_m250 2 L (.int x :: .ref a :: S) (rz_mk h ι, w) = rg Z d rx_m250 5 L S (rz_mk h (rz_up ι a 0 x), w) := rz_pI rfl c hz
theorem g250_5 : rg Z d rx_m250 5 [some (.ref a), l1, l2, l3, l4, l5] S (rz_mk h ι, w) = rg Z d rx_m250 6 [some (.ref a), l1, l2, l3, l4, l5] (.ref a :: S) (rz_mk h ι, w) := rz_s1 fun _ => rfl
theorem g250_6 : rg Z d rx_m250 6 [l0, some (.int x), l2, l3, l4, l5] S (rz_mk h ι, w) = rg Z d rx_m250 7 [l0, some (.int x), l2, l3, l4, l5] (.int x :: S) (rz_mk h ι, w) := rz_s1 fun _ => rfl
theorem g250_7 : rg Z d rx_m250 7 L S (rz_mk h ι, w) = rg Z d rx_m250 8 L (.int 0 :: S) (rz_mk h ι, w) := rz_s1 fun _ => rfl
theorem g250_8 : rg Z d rx_m250 8 L S (rz_mk h ι, w) = rg Z d rx_m250 9 L (.int 1 :: S) (rz_mk h ι, w) := rz_s1 fun _ => rfl
theorem g250_9 : rg Z d rx_m250 9 L (v3 :: v2 :: v1 :: [.ref t0]) (rz_mk h ι, w) = rz_k true (rz_f Z d 175 [v1, v2, v3] (rz_mk h ι, w)) (fun v σ' => rg Z d rx_m250 12 L (v.toList ++ [.ref t0]) σ') := rz_cs (pc := 9) (n := 3) (mi := 175) (S := v3 :: v2 :: v1 :: [.ref t0]) (rest := [.ref t0]) rfl rfl (Nat.le_of_ble_eq_true rfl) (Nat.le_of_ble_eq_true rfl)
theorem g250_12 : rg Z d rx_m250 12 L (.int x :: S) (rz_mk h ι, w) = if x = 0 then rg Z d rx_m250 15 L S (rz_mk h ι, w) else rg Z d rx_m250 19 L S (rz_mk h ι, w) := rz_if1 (pc := 12) (t := 19) (off := 7) (cc := .ne) (by decide) rfl
theorem g250_15 : rg Z d rx_m250 15 L S (rz_mk h ι, w) = rg Z d rx_m250 16 L (.int 1 :: S) (rz_mk h ι, w) := rz_s1 fun _ => rfl
theorem g250_16 : rg Z d rx_m250 16 L S (rz_mk h ι, w) = rg Z d rx_m250 20 L S (rz_mk h ι, w) := rz_s1 fun _ => rfl
theorem g250_19 : rg Z d rx_m250 19 L S (rz_mk h ι, w) = rg Z d rx_m250 20 L (.int 0 :: S) (rz_mk h ι, w) := rz_s1 fun _ => rfl
theorem g250_20 : rg Z d rx_m250 20 L S (rz_mk h ι, w) = rg Z d rx_m250 21 L (.int 1 :: S) (rz_mk h ι, w) := rz_s1 fun _ => rfl
theorem g250_21 : rg Z d rx_m250 21 L S (rz_mk h ι, w) = rg Z d rx_m250 22 L (.int 1 :: S) (rz_mk h ι, w) := rz_s1 fun _ => rfl
theorem g250_22 (c : rz_oc h a 12) : rg Z d rx_m250 22 L (v3 :: v2 :: v1 :: .ref a :: []) (rz_mk h ι, w) = rz_k true (rz_f Z d 174 [.ref a, v1, v2, v3] (rz_mk h ι, w)) (fun v σ' => rg Z d rx_m250 25 L (v.toList ++ []) σ') := rz_cv (pc := 22) (n := 3) (mi := 174) (S := v3 :: v2 :: v1 :: .ref a :: []) (rest := []) rfl rfl (Nat.le_of_ble_eq_true rfl) (Nat.le_of_ble_eq_true rfl) c
theorem g250_25 : rg Z d rx_m250 25 L (.int x :: S) (rz_mk h ι, w) = if x = 0 then rg Z d rx_m250 30 L S (rz_mk h ι, w) else rg Z d rx_m250 28 L S (rz_mk h ι, w) := rz_if1 (pc := 25) (t := 30) (off := 5) (cc := .eq) (by decide) rfl
theorem g250_28 : rg Z d rx_m250 28 L S (rz_mk h ι, w) = rg Z d rx_m250 29 L (.int 0 :: S) (rz_mk h ι, w) := rz_s1 fun _ => rfl
theorem g250_29 : rg Z d rx_m250 29 L [.int x] (rz_mk h ι, w) = some (.inl (some (.int x)), (rz_mk h ι, w)) := rz_reti rfl rfl rfl
theorem g250_30 : rg Z d rx_m250 30 L S (rz_mk h ι, w) = rg Z d rx_m250 31 L (.int (-1) :: S) (rz_mk h ι, w) := rz_s1 fun _ => rfl
theorem g250_31 : rg Z d rx_m250 31 [l0, some (.int z), l2, l3, l4, l5] (.int x :: S) (rz_mk h ι, w) = rg Z d rx_m250 32 [l0, some (.int z), some (.int x), l3, l4, l5] S (rz_mk h ι, w) := rz_s1 fun _ => rfl
theorem g250_32 : rg Z d rx_m250 32 L S (rz_mk h ι, w) = rg Z d rx_m250 33 L (.int (-1) :: S) (rz_mk h ι, w) := rz_s1 fun _ => rfl
theorem g250_33 : rg Z d rx_m250 33 [l0, l1, some (.int z), l3, l4, l5] (.int x :: S) (rz_mk h ι, w) = rg Z d rx_m250 34 [l0, l1, some (.int z), some (.int x), l4, l5] S (rz_mk h ι, w) := rz_s1 fun _ => rfl
theorem g250_34 : rg Z d rx_m250 34 L S (rz_mk h ι, w) = rg Z d rx_m250 35 L (.int 0 :: S) (rz_mk h ι, w) := rz_s1 fun _ => rfl
theorem g250_35 : rg Z d rx_m250 35 [l0, l1, l2, some (.int z), l4, l5] (.int x :: S) (rz_mk h ι, w) = rg Z d rx_m250 37 [l0, l1, l2, some (.int z), some (.int x), l5] S (rz_mk h ι, w) := rz_s1 fun _ => rfl
theorem g250_37 : rg Z d rx_m250 37 [l0, l1, l2, l3, some (.int x), l5] S (rz_mk h ι, w) = rg Z d rx_m250 39 [l0, l1, l2, l3, some (.int x), l5] (.int x :: S) (rz_mk h ι, w) := rz_s1 fun _ => rfl
theorem g250_39 : rg Z d rx_m250 39 [some (.ref a), l1, l2, l3, l4, l5] S (rz_mk h ι, w) = rg Z d rx_m250 40 [some (.ref a), l1, l2, l3, l4, l5] (.ref a :: S) (rz_mk h ι, w) := rz_s1 fun _ => rfl
theorem g250_40 (c : rz_fR h a 12 25) : rg Z d rx_m250 40 L (.ref a :: S) (rz_mk h ι, w) = rg Z d rx_m250 43 L (rz_rv h a 25 :: S) (rz_mk h ι, w) := rz_gR rfl (by decide) c
theorem g250_43 : rg Z d rx_m250 43 L S (rz_mk h ι, w) = rg Z d rx_m250 45 L (.int 57 :: S) (rz_mk h ι, w) := rz_s1 fun _ => rfl
theorem g250_45 (c : rz_ar h a 0) (hi : rz_ix x (rz_ln h a)) : rg Z d rx_m250 45 L (.int x :: .ref a :: S) (rz_mk h ι, w) = rg Z d rx_m250 46 L (.int (ι a x.toNatClampNeg) :: S) (rz_mk h ι, w) := rz_iald rfl c hi
theorem g250_46 : rg Z d rx_m250 46 L (.int y :: .int x :: S) (rz_mk h ι, w) = if x < y then rg Z d rx_m250 49 L S (rz_mk h ι, w) else rg Z d rx_m250 95 L S (rz_mk h ι, w) := rz_if2 (pc := 46) (t := 95) (off := 49) (cc := .ge) (by decide) rfl
theorem g250_49 : rg Z d rx_m250 49 [some (.ref a), l1, l2, l3, l4, l5] S (rz_mk h ι, w) = rg Z d rx_m250 50 [some (.ref a), l1, l2, l3, l4, l5] (.ref a :: S) (rz_mk h ι, w) := rz_s1 fun _ => rfl
theorem g250_50 : rg Z d rx_m250 50 [l0, l1, l2, l3, some (.int x), l5] S (rz_mk h ι, w) = rg Z d rx_m250 52 [l0, l1, l2, l3, some (.int x), l5] (.int x :: S) (rz_mk h ι, w) := rz_s1 fun _ => rfl
theorem g250_52 (c : rz_oc h a 12) : rg Z d rx_m250 52 L (v1 :: .ref a :: []) (rz_mk h ι, w) = rz_k true (rz_f Z d 248 [.ref a, v1] (rz_mk h ι, w)) (fun v σ' => rg Z d rx_m250 55 L (v.toList ++ []) σ') := rz_cv (pc := 52) (n := 1) (mi := 248) (S := v1 :: .ref a :: []) (rest := []) rfl rfl (Nat.le_of_ble_eq_true rfl) (Nat.le_of_ble_eq_true rfl) c
theorem g250_55 : rg Z d rx_m250 55 L (.int x :: S) (rz_mk h ι, w) = if x = 0 then rg Z d rx_m250 61 L S (rz_mk h ι, w) else rg Z d rx_m250 58 L S (rz_mk h ι, w) := rz_if1 (pc := 55) (t := 61) (off := 6) (cc := .eq) (by decide) rfl
theorem g250_58 : rg Z d rx_m250 58 L S (rz_mk h ι, w) = rg Z d rx_m250 89 L S (rz_mk h ι, w) := rz_s1 fun _ => rfl
theorem g250_61 : rg Z d rx_m250 61 [some (.ref a), l1, l2, l3, l4, l5] S (rz_mk h ι, w) = rg Z d rx_m250 62 [some (.ref a), l1, l2, l3, l4, l5] (.ref a :: S) (rz_mk h ι, w) := rz_s1 fun _ => rfl
theorem g250_62 : rg Z d rx_m250 62 [l0, l1, l2, l3, some (.int x), l5] S (rz_mk h ι, w) = rg Z d rx_m250 64 [l0, l1, l2, l3, some (.int x), l5] (.int x :: S) (rz_mk h ι, w) := rz_s1 fun _ => rfl
theorem g250_64 (c : rz_oc h a 12) : rg Z d rx_m250 64 L (v1 :: .ref a :: []) (rz_mk h ι, w) = rz_k true (rz_f Z d 249 [.ref a, v1] (rz_mk h ι, w)) (fun v σ' => rg Z d rx_m250 67 L (v.toList ++ []) σ') := rz_cv (pc := 64) (n := 1) (mi := 249) (S := v1 :: .ref a :: []) (rest := []) rfl rfl (Nat.le_of_ble_eq_true rfl) (Nat.le_of_ble_eq_true rfl) c
theorem g250_67 : rg Z d rx_m250 67 [l0, l1, l2, l3, some (.int z), l5] (.int x :: S) (rz_mk h ι, w) = rg Z d rx_m250 69 [l0, l1, l2, l3, some (.int z), some (.int x)] S (rz_mk h ι, w) := rz_s1 fun _ => rfl
theorem g250_69 : rg Z d rx_m250 69 [l0, l1, some (.int x), l3, l4, l5] S (rz_mk h ι, w) = rg Z d rx_m250 70 [l0, l1, some (.int x), l3, l4, l5] (.int x :: S) (rz_mk h ι, w) := rz_s1 fun _ => rfl
theorem g250_70 : rg Z d rx_m250 70 L S (rz_mk h ι, w) = rg Z d rx_m250 71 L (.int (-1) :: S) (rz_mk h ι, w) := rz_s1 fun _ => rfl
theorem g250_71 : rg Z d rx_m250 71 L (.int y :: .int x :: S) (rz_mk h ι, w) = if x = y then rg Z d rx_m250 83 L S (rz_mk h ι, w) else rg Z d rx_m250 74 L S (rz_mk h ι, w) := rz_if2 (pc := 71) (t := 83) (off := 12) (cc := .eq) (by decide) rfl
theorem g250_74 : rg Z d rx_m250 74 [l0, l1, l2, l3, l4, some (.int x)] S (rz_mk h ι, w) = rg Z d rx_m250 76 [l0, l1, l2, l3, l4, some (.int x)] (.int x :: S) (rz_mk h ι, w) := rz_s1 fun _ => rfl
theorem g250_76 : rg Z d rx_m250 76 [l0, l1, l2, some (.int x), l4, l5] S (rz_mk h ι, w) = rg Z d rx_m250 77 [l0, l1, l2, some (.int x), l4, l5] (.int x :: S) (rz_mk h ι, w) := rz_s1 fun _ => rfl
theorem g250_77 : rg Z d rx_m250 77 L (.int y :: .int x :: S) (rz_mk h ι, w) = if x < y then rg Z d rx_m250 83 L S (rz_mk h ι, w) else rg Z d rx_m250 80 L S (rz_mk h ι, w) := rz_if2 (pc := 77) (t := 83) (off := 6) (cc := .lt) (by decide) rfl
theorem g250_80 : rg Z d rx_m250 80 L S (rz_mk h ι, w) = rg Z d rx_m250 89 L S (rz_mk h ι, w) := rz_s1 fun _ => rfl
theorem g250_83 : rg Z d rx_m250 83 [l0, l1, l2, l3, some (.int x), l5] S (rz_mk h ι, w) = rg Z d rx_m250 85 [l0, l1, l2, l3, some (.int x), l5] (.int x :: S) (rz_mk h ι, w) := rz_s1 fun _ => rfl
theorem g250_85 : rg Z d rx_m250 85 [l0, some (.int z), l2, l3, l4, l5] (.int x :: S) (rz_mk h ι, w) = rg Z d rx_m250 86 [l0, some (.int z), some (.int x), l3, l4, l5] S (rz_mk h ι, w) := rz_s1 fun _ => rfl
theorem g250_86 : rg Z d rx_m250 86 [l0, l1, l2, l3, l4, some (.int x)] S (rz_mk h ι, w) = rg Z d rx_m250 88 [l0, l1, l2, l3, l4, some (.int x)] (.int x :: S) (rz_mk h ι, w) := rz_s1 fun _ => rfl
theorem g250_88 : rg Z d rx_m250 88 [l0, l1, some (.int z), l3, l4, l5] (.int x :: S) (rz_mk h ι, w) = rg Z d rx_m250 89 [l0, l1, some (.int z), some (.int x), l4, l5] S (rz_mk h ι, w) := rz_s1 fun _ => rfl
theorem g250_89 : rg Z d rx_m250 89 [l0, l1, l2, some (.int z), some (.int x), l5] S (rz_mk h ι, w) = rg Z d rx_m250 92 [l0, l1, l2, some (.int z), some (.int (x + 1)), l5] S (rz_mk h ι, w) := rz_s1 fun _ => rfl
theorem g250_92 : rg Z d rx_m250 92 L S (rz_mk h ι, w) = rg Z d rx_m250 37 L S (rz_mk h ι, w) := rz_s1 fun _ => rfl
theorem g250_95 : rg Z d rx_m250 95 [l0, some (.int x), l2, l3, l4, l5] S (rz_mk h ι, w) = rg Z d rx_m250 96 [l0, some (.int x), l2, l3, l4, l5] (.int x :: S) (rz_mk h ι, w) := rz_s1 fun _ => rfl
theorem g250_96 : rg Z d rx_m250 96 L (.int x :: S) (rz_mk h ι, w) = if x = 0 then rg Z d rx_m250 99 L S (rz_mk h ι, w) else rg Z d rx_m250 103 L S (rz_mk h ι, w) := rz_if1 (pc := 96) (t := 103) (off := 7) (cc := .ne) (by decide) rfl
theorem g250_99 : rg Z d rx_m250 99 [l0, l1, some (.int x), l3, l4, l5] S (rz_mk h ι, w) = rg Z d rx_m250 100 [l0, l1, some (.int x), l3, l4, l5] (.int x :: S) (rz_mk h ι, w) := rz_s1 fun _ => rfl
theorem g250_100 : rg Z d rx_m250 100 L S (rz_mk h ι, w) = rg Z d rx_m250 104 L S (rz_mk h ι, w) := rz_s1 fun _ => rfl
theorem g250_103 : rg Z d rx_m250 103 [l0, l1, l2, some (.int x), l4, l5] S (rz_mk h ι, w) = rg Z d rx_m250 104 [l0, l1, l2, some (.int x), l4, l5] (.int x :: S) (rz_mk h ι, w) := rz_s1 fun _ => rfl
theorem g250_104 : rg Z d rx_m250 104 L [.int x] (rz_mk h ι, w) = some (.inl (some (.int x)), (rz_mk h ι, w)) := rz_reti rfl rfl rfl
theorem e250 : rz_f Z (d + 1) 250 [.ref t0, .int s1] σ = rg Z d rx_m250 0 [some (.ref t0), some (.int s1), none, none, none, none] [] σ := rz_f_eq rfl (Nat.le_of_ble_eq_true rfl)
theorem g251_0 : rg Z d rx_m251 0 [l0, some (.int x), l2, l3, l4, l5] S (rz_mk h ι, w) = rg Z d rx_m251 1 [l0, some (.int x), l2, l3, l4, l5] (.int x :: S) (rz_mk h ι, w) := rz_s1 fun _ => rfl
theorem g251_1 : rg Z d rx_m251 1 L (.int x :: S) (rz_mk h ι, w) = if x = 0 then rg Z d rx_m251 4 L S (rz_mk h ι, w) else rg Z d rx_m251 49 L S (rz_mk h ι, w) := rz_if1 (pc := 1) (t := 49) (off := 48) (cc := .ne) (by decide) rfl
theorem g251_4 : rg Z d rx_m251 4 [l0, l1, l2, some (.int x), l4, l5] S (rz_mk h ι, w) = rg Z d rx_m251 5 [l0, l1, l2, some (.int x), l4, l5] (.int x :: S) (rz_mk h ι, w) := rz_s1 fun _ => rfl
theorem g251_5 : rg Z d rx_m251 5 [some (.ref a), l1, l2, l3, l4, l5] S (rz_mk h ι, w) = rg Z d rx_m251 6 [some (.ref a), l1, l2, l3, l4, l5] (.ref a :: S) (rz_mk h ι, w) := rz_s1 fun _ => rfl
theorem g251_6 (c : rz_fI h a 12 39) : rg Z d rx_m251 6 L (.ref a :: S) (rz_mk h ι, w) = rg Z d rx_m251 9 L (.int (ι a 39) :: S) (rz_mk h ι, w) := rz_gI rfl (by decide) c
theorem g251_9 : rg Z d rx_m251 9 L (.int y :: .int x :: S) (rz_mk h ι, w) = if y < x then rg Z d rx_m251 13 L S (rz_mk h ι, w) else rg Z d rx_m251 12 L S (rz_mk h ι, w) := rz_if2 (pc := 9) (t := 13) (off := 4) (cc := .gt) (by decide) rfl
theorem g251_12 : rg Z d rx_m251 12 L [] (rz_mk h ι, w) = some (.inl none, (rz_mk h ι, w)) := rz_r1 fun _ => rfl
theorem g251_13 : rg Z d rx_m251 13 [some (.ref a), l1, l2, l3, l4, l5] S (rz_mk h ι, w) = rg Z d rx_m251 14 [some (.ref a), l1, l2, l3, l4, l5] (.ref a :: S) (rz_mk h ι, w) := rz_s1 fun _ => rfl
theorem g251_14 : rg Z d rx_m251 14 [l0, l1, l2, some (.int x), l4, l5] S (rz_mk h ι, w) = rg Z d rx_m251 15 [l0, l1, l2, some (.int x), l4, l5] (.int x :: S) (rz_mk h ι, w) := rz_s1 fun _ => rfl
theorem g251_15 (c : rz_fI h a 12 39) (hz : Z.2.1 ≤ a) : rg Z d rx_m251 15 L (.int x :: .ref a :: S) (rz_mk h ι, w) = rg Z d rx_m251 18 L S (rz_mk h (rz_up ι a 39 x), w) := rz_pI rfl c hz
theorem g251_18 : rg Z d rx_m251 18 L S (rz_mk h ι, w) = rg Z d rx_m251 19 L (.int 0 :: S) (rz_mk h ι, w) := rz_s1 fun _ => rfl
theorem g251_19 : rg Z d rx_m251 19 [l0, l1, l2, some (.int z), l4, l5] (.int x :: S) (rz_mk h ι, w) = rg Z d rx_m251 21 [l0, l1, l2, some (.int z), some (.int x), l5] S (rz_mk h ι, w) := rz_s1 fun _ => rfl
theorem g251_21 : rg Z d rx_m251 21 [l0, l1, l2, l3, some (.int x), l5] S (rz_mk h ι, w) = rg Z d rx_m251 23 [l0, l1, l2, l3, some (.int x), l5] (.int x :: S) (rz_mk h ι, w) := rz_s1 fun _ => rfl
theorem g251_23 : rg Z d rx_m251 23 L S (rz_mk h ι, w) = rg Z d rx_m251 25 L (.int 8 :: S) (rz_mk h ι, w) := rz_s1 fun _ => rfl
theorem g251_25 : rg Z d rx_m251 25 L (.int y :: .int x :: S) (rz_mk h ι, w) = if x < y then rg Z d rx_m251 28 L S (rz_mk h ι, w) else rg Z d rx_m251 48 L S (rz_mk h ι, w) := rz_if2 (pc := 25) (t := 48) (off := 23) (cc := .ge) (by decide) rfl
theorem g251_28 : rg Z d rx_m251 28 [some (.ref a), l1, l2, l3, l4, l5] S (rz_mk h ι, w) = rg Z d rx_m251 29 [some (.ref a), l1, l2, l3, l4, l5] (.ref a :: S) (rz_mk h ι, w) := rz_s1 fun _ => rfl
theorem g251_29 (c : rz_fR h a 12 38) : rg Z d rx_m251 29 L (.ref a :: S) (rz_mk h ι, w) = rg Z d rx_m251 32 L (rz_rv h a 38 :: S) (rz_mk h ι, w) := rz_gR rfl (by decide) c
theorem g251_32 : rg Z d rx_m251 32 [l0, l1, l2, l3, some (.int x), l5] S (rz_mk h ι, w) = rg Z d rx_m251 34 [l0, l1, l2, l3, some (.int x), l5] (.int x :: S) (rz_mk h ι, w) := rz_s1 fun _ => rfl
theorem g251_34 : rg Z d rx_m251 34 [some (.ref a), l1, l2, l3, l4, l5] S (rz_mk h ι, w) = rg Z d rx_m251 35 [some (.ref a), l1, l2, l3, l4, l5] (.ref a :: S) (rz_mk h ι, w) := rz_s1 fun _ => rfl
theorem g251_35 (c : rz_fR h a 12 37) : rg Z d rx_m251 35 L (.ref a :: S) (rz_mk h ι, w) = rg Z d rx_m251 38 L (rz_rv h a 37 :: S) (rz_mk h ι, w) := rz_gR rfl (by decide) c
theorem g251_38 : rg Z d rx_m251 38 [l0, l1, l2, l3, some (.int x), l5] S (rz_mk h ι, w) = rg Z d rx_m251 40 [l0, l1, l2, l3, some (.int x), l5] (.int x :: S) (rz_mk h ι, w) := rz_s1 fun _ => rfl
theorem g251_40 (c : rz_ar h a 0) (hi : rz_ix x (rz_ln h a)) : rg Z d rx_m251 40 L (.int x :: .ref a :: S) (rz_mk h ι, w) = rg Z d rx_m251 41 L (.int (ι a x.toNatClampNeg) :: S) (rz_mk h ι, w) := rz_iald rfl c hi
theorem g251_41 (c : rz_ar h a 0) (hi : rz_ix x (rz_ln h a)) (hz : Z.2.1 ≤ a) : rg Z d rx_m251 41 L (.int y :: .int x :: .ref a :: S) (rz_mk h ι, w) = rg Z d rx_m251 42 L S (rz_mk h (rz_up ι a x.toNatClampNeg y), w) := rz_iast rfl c hi hz
theorem g251_42 : rg Z d rx_m251 42 [l0, l1, l2, some (.int z), some (.int x), l5] S (rz_mk h ι, w) = rg Z d rx_m251 45 [l0, l1, l2, some (.int z), some (.int (x + 1)), l5] S (rz_mk h ι, w) := rz_s1 fun _ => rfl
theorem g251_45 : rg Z d rx_m251 45 L S (rz_mk h ι, w) = rg Z d rx_m251 21 L S (rz_mk h ι, w) := rz_s1 fun _ => rfl
theorem g251_48 : rg Z d rx_m251 48 L [] (rz_mk h ι, w) = some (.inl none, (rz_mk h ι, w)) := rz_r1 fun _ => rfl
theorem g251_49 : rg Z d rx_m251 49 L S (rz_mk h ι, w) = rg Z d rx_m251 50 L (.int 0 :: S) (rz_mk h ι, w) := rz_s1 fun _ => rfl
theorem g251_50 : rg Z d rx_m251 50 [l0, l1, l2, some (.int z), l4, l5] (.int x :: S) (rz_mk h ι, w) = rg Z d rx_m251 52 [l0, l1, l2, some (.int z), some (.int x), l5] S (rz_mk h ι, w) := rz_s1 fun _ => rfl
theorem g251_52 : rg Z d rx_m251 52 [l0, some (.int x), l2, l3, l4, l5] S (rz_mk h ι, w) = rg Z d rx_m251 53 [l0, some (.int x), l2, l3, l4, l5] (.int x :: S) (rz_mk h ι, w) := rz_s1 fun _ => rfl
theorem g251_53 : rg Z d rx_m251 53 [l0, l1, l2, l3, some (.int x), l5] S (rz_mk h ι, w) = rg Z d rx_m251 55 [l0, l1, l2, l3, some (.int x), l5] (.int x :: S) (rz_mk h ι, w) := rz_s1 fun _ => rfl
theorem g251_55 : rg Z d rx_m251 55 L (v2 :: v1 :: []) (rz_mk h ι, w) = rz_k true (rz_f Z d 178 [v1, v2] (rz_mk h ι, w)) (fun v σ' => rg Z d rx_m251 58 L (v.toList ++ []) σ') := rz_cs (pc := 55) (n := 2) (mi := 178) (S := v2 :: v1 :: []) (rest := []) rfl rfl (Nat.le_of_ble_eq_true rfl) (Nat.le_of_ble_eq_true rfl)
theorem g251_58 : rg Z d rx_m251 58 L (.int x :: S) (rz_mk h ι, w) = if x = 0 then rg Z d rx_m251 61 L S (rz_mk h ι, w) else rg Z d rx_m251 67 L S (rz_mk h ι, w) := rz_if1 (pc := 58) (t := 67) (off := 9) (cc := .ne) (by decide) rfl
theorem g251_61 : rg Z d rx_m251 61 [l0, l1, l2, some (.int z), some (.int x), l5] S (rz_mk h ι, w) = rg Z d rx_m251 64 [l0, l1, l2, some (.int z), some (.int (x + 1)), l5] S (rz_mk h ι, w) := rz_s1 fun _ => rfl
theorem g251_64 : rg Z d rx_m251 64 L S (rz_mk h ι, w) = rg Z d rx_m251 52 L S (rz_mk h ι, w) := rz_s1 fun _ => rfl
theorem g251_67 : rg Z d rx_m251 67 [l0, l1, l2, l3, some (.int x), l5] S (rz_mk h ι, w) = rg Z d rx_m251 69 [l0, l1, l2, l3, some (.int x), l5] (.int x :: S) (rz_mk h ι, w) := rz_s1 fun _ => rfl
theorem g251_69 : rg Z d rx_m251 69 L S (rz_mk h ι, w) = rg Z d rx_m251 70 L (.int 1 :: S) (rz_mk h ι, w) := rz_s1 fun _ => rfl
theorem g251_70 : rg Z d rx_m251 70 L (.int y :: .int x :: S) (rz_mk h ι, w) = rg Z d rx_m251 71 L (.int (x + y) :: S) (rz_mk h ι, w) := rz_s1 fun _ => rfl
theorem g251_71 : rg Z d rx_m251 71 [l0, l1, l2, l3, some (.int z), l5] (.int x :: S) (rz_mk h ι, w) = rg Z d rx_m251 73 [l0, l1, l2, l3, some (.int z), some (.int x)] S (rz_mk h ι, w) := rz_s1 fun _ => rfl
theorem g251_73 : rg Z d rx_m251 73 [l0, l1, l2, l3, l4, some (.int x)] S (rz_mk h ι, w) = rg Z d rx_m251 75 [l0, l1, l2, l3, l4, some (.int x)] (.int x :: S) (rz_mk h ι, w) := rz_s1 fun _ => rfl
theorem g251_75 : rg Z d rx_m251 75 L S (rz_mk h ι, w) = rg Z d rx_m251 77 L (.int 8 :: S) (rz_mk h ι, w) := rz_s1 fun _ => rfl
theorem g251_77 : rg Z d rx_m251 77 L (.int y :: .int x :: S) (rz_mk h ι, w) = if x < y then rg Z d rx_m251 80 L S (rz_mk h ι, w) else rg Z d rx_m251 150 L S (rz_mk h ι, w) := rz_if2 (pc := 77) (t := 150) (off := 73) (cc := .ge) (by decide) rfl
theorem g251_80 : rg Z d rx_m251 80 [l0, some (.int x), l2, l3, l4, l5] S (rz_mk h ι, w) = rg Z d rx_m251 81 [l0, some (.int x), l2, l3, l4, l5] (.int x :: S) (rz_mk h ι, w) := rz_s1 fun _ => rfl
theorem g251_81 : rg Z d rx_m251 81 [l0, l1, l2, l3, l4, some (.int x)] S (rz_mk h ι, w) = rg Z d rx_m251 83 [l0, l1, l2, l3, l4, some (.int x)] (.int x :: S) (rz_mk h ι, w) := rz_s1 fun _ => rfl
theorem g251_83 : rg Z d rx_m251 83 L (v2 :: v1 :: []) (rz_mk h ι, w) = rz_k true (rz_f Z d 178 [v1, v2] (rz_mk h ι, w)) (fun v σ' => rg Z d rx_m251 86 L (v.toList ++ []) σ') := rz_cs (pc := 83) (n := 2) (mi := 178) (S := v2 :: v1 :: []) (rest := []) rfl rfl (Nat.le_of_ble_eq_true rfl) (Nat.le_of_ble_eq_true rfl)
theorem g251_86 : rg Z d rx_m251 86 L (.int x :: S) (rz_mk h ι, w) = if x = 0 then rg Z d rx_m251 89 L S (rz_mk h ι, w) else rg Z d rx_m251 92 L S (rz_mk h ι, w) := rz_if1 (pc := 86) (t := 92) (off := 6) (cc := .ne) (by decide) rfl
theorem g251_89 : rg Z d rx_m251 89 L S (rz_mk h ι, w) = rg Z d rx_m251 144 L S (rz_mk h ι, w) := rz_s1 fun _ => rfl
theorem g251_92 : rg Z d rx_m251 92 [some (.ref a), l1, l2, l3, l4, l5] S (rz_mk h ι, w) = rg Z d rx_m251 93 [some (.ref a), l1, l2, l3, l4, l5] (.ref a :: S) (rz_mk h ι, w) := rz_s1 fun _ => rfl
theorem g251_93 (c : rz_fR h a 12 37) : rg Z d rx_m251 93 L (.ref a :: S) (rz_mk h ι, w) = rg Z d rx_m251 96 L (rz_rv h a 37 :: S) (rz_mk h ι, w) := rz_gR rfl (by decide) c
theorem g251_96 : rg Z d rx_m251 96 [l0, l1, l2, l3, some (.int x), l5] S (rz_mk h ι, w) = rg Z d rx_m251 98 [l0, l1, l2, l3, some (.int x), l5] (.int x :: S) (rz_mk h ι, w) := rz_s1 fun _ => rfl
theorem g251_98 : rg Z d rx_m251 98 [l0, l1, l2, l3, l4, some (.int x)] S (rz_mk h ι, w) = rg Z d rx_m251 100 [l0, l1, l2, l3, l4, some (.int x)] (.int x :: S) (rz_mk h ι, w) := rz_s1 fun _ => rfl
theorem g251_100 (c : rz_ar h a 0) (hi : rz_ix x (rz_ln h a)) (hz : Z.2.1 ≤ a) : rg Z d rx_m251 100 L (.int y :: .int x :: .ref a :: S) (rz_mk h ι, w) = rg Z d rx_m251 101 L S (rz_mk h (rz_up ι a x.toNatClampNeg y), w) := rz_iast rfl c hi hz
theorem g251_101 : rg Z d rx_m251 101 [some (.ref a), l1, l2, l3, l4, l5] S (rz_mk h ι, w) = rg Z d rx_m251 102 [some (.ref a), l1, l2, l3, l4, l5] (.ref a :: S) (rz_mk h ι, w) := rz_s1 fun _ => rfl
theorem g251_102 (c : rz_fR h a 12 37) : rg Z d rx_m251 102 L (.ref a :: S) (rz_mk h ι, w) = rg Z d rx_m251 105 L (rz_rv h a 37 :: S) (rz_mk h ι, w) := rz_gR rfl (by decide) c
theorem g251_105 : rg Z d rx_m251 105 [l0, l1, l2, l3, l4, some (.int x)] S (rz_mk h ι, w) = rg Z d rx_m251 107 [l0, l1, l2, l3, l4, some (.int x)] (.int x :: S) (rz_mk h ι, w) := rz_s1 fun _ => rfl
theorem g251_107 : rg Z d rx_m251 107 [l0, l1, l2, l3, some (.int x), l5] S (rz_mk h ι, w) = rg Z d rx_m251 109 [l0, l1, l2, l3, some (.int x), l5] (.int x :: S) (rz_mk h ι, w) := rz_s1 fun _ => rfl
theorem g251_109 (c : rz_ar h a 0) (hi : rz_ix x (rz_ln h a)) (hz : Z.2.1 ≤ a) : rg Z d rx_m251 109 L (.int y :: .int x :: .ref a :: S) (rz_mk h ι, w) = rg Z d rx_m251 110 L S (rz_mk h (rz_up ι a x.toNatClampNeg y), w) := rz_iast rfl c hi hz
theorem g251_110 : rg Z d rx_m251 110 [some (.ref a), l1, l2, l3, l4, l5] S (rz_mk h ι, w) = rg Z d rx_m251 111 [some (.ref a), l1, l2, l3, l4, l5] (.ref a :: S) (rz_mk h ι, w) := rz_s1 fun _ => rfl
theorem g251_111 : rg Z d rx_m251 111 [l0, some (.int x), l2, l3, l4, l5] S (rz_mk h ι, w) = rg Z d rx_m251 112 [l0, some (.int x), l2, l3, l4, l5] (.int x :: S) (rz_mk h ι, w) := rz_s1 fun _ => rfl
theorem g251_112 : rg Z d rx_m251 112 L S (rz_mk h ι, w) = rg Z d rx_m251 113 L (.int 1 :: S) (rz_mk h ι, w) := rz_s1 fun _ => rfl
theorem g251_113 : rg Z d rx_m251 113 [l0, l1, l2, l3, some (.int x), l5] S (rz_mk h ι, w) = rg Z d rx_m251 115 [l0, l1, l2, l3, some (.int x), l5] (.int x :: S) (rz_mk h ι, w) := rz_s1 fun _ => rfl
theorem g251_115 : rg Z d rx_m251 115 L (.int y :: .int x :: S) (rz_mk h ι, w) = rg Z d rx_m251 116 L (.int (x <<< (y &&& 31)) :: S) (rz_mk h ι, w) := rz_s1 fun _ => rfl
theorem g251_116 : rg Z d rx_m251 116 L S (rz_mk h ι, w) = rg Z d rx_m251 117 L (.int (-1) :: S) (rz_mk h ι, w) := rz_s1 fun _ => rfl
theorem g251_117 : rg Z d rx_m251 117 L (.int y :: .int x :: S) (rz_mk h ι, w) = rg Z d rx_m251 118 L (.int (x ^^^ y) :: S) (rz_mk h ι, w) := rz_s1 fun _ => rfl
theorem g251_118 : rg Z d rx_m251 118 L (.int y :: .int x :: S) (rz_mk h ι, w) = rg Z d rx_m251 119 L (.int (x &&& y) :: S) (rz_mk h ι, w) := rz_s1 fun _ => rfl
theorem g251_119 : rg Z d rx_m251 119 L S (rz_mk h ι, w) = rg Z d rx_m251 120 L (.int 1 :: S) (rz_mk h ι, w) := rz_s1 fun _ => rfl
theorem g251_120 : rg Z d rx_m251 120 [l0, l1, l2, l3, l4, some (.int x)] S (rz_mk h ι, w) = rg Z d rx_m251 122 [l0, l1, l2, l3, l4, some (.int x)] (.int x :: S) (rz_mk h ι, w) := rz_s1 fun _ => rfl
theorem g251_122 : rg Z d rx_m251 122 L (.int y :: .int x :: S) (rz_mk h ι, w) = rg Z d rx_m251 123 L (.int (x <<< (y &&& 31)) :: S) (rz_mk h ι, w) := rz_s1 fun _ => rfl
theorem g251_123 : rg Z d rx_m251 123 L S (rz_mk h ι, w) = rg Z d rx_m251 124 L (.int (-1) :: S) (rz_mk h ι, w) := rz_s1 fun _ => rfl
theorem g251_124 : rg Z d rx_m251 124 L (.int y :: .int x :: S) (rz_mk h ι, w) = rg Z d rx_m251 125 L (.int (x ^^^ y) :: S) (rz_mk h ι, w) := rz_s1 fun _ => rfl
theorem g251_125 : rg Z d rx_m251 125 L (.int y :: .int x :: S) (rz_mk h ι, w) = rg Z d rx_m251 126 L (.int (x &&& y) :: S) (rz_mk h ι, w) := rz_s1 fun _ => rfl
theorem g251_126 : rg Z d rx_m251 126 [l0, l1, some (.int x), l3, l4, l5] S (rz_mk h ι, w) = rg Z d rx_m251 127 [l0, l1, some (.int x), l3, l4, l5] (.int x :: S) (rz_mk h ι, w) := rz_s1 fun _ => rfl
theorem g251_127 : rg Z d rx_m251 127 [l0, l1, l2, some (.int x), l4, l5] S (rz_mk h ι, w) = rg Z d rx_m251 128 [l0, l1, l2, some (.int x), l4, l5] (.int x :: S) (rz_mk h ι, w) := rz_s1 fun _ => rfl
theorem g251_128 : rg Z d rx_m251 128 [some (.ref a), l1, l2, l3, l4, l5] S (rz_mk h ι, w) = rg Z d rx_m251 129 [some (.ref a), l1, l2, l3, l4, l5] (.ref a :: S) (rz_mk h ι, w) := rz_s1 fun _ => rfl
theorem g251_129 : rg Z d rx_m251 129 [some (.ref a), l1, l2, l3, l4, l5] S (rz_mk h ι, w) = rg Z d rx_m251 130 [some (.ref a), l1, l2, l3, l4, l5] (.ref a :: S) (rz_mk h ι, w) := rz_s1 fun _ => rfl
theorem g251_130 (c : rz_fR h a 12 25) : rg Z d rx_m251 130 L (.ref a :: S) (rz_mk h ι, w) = rg Z d rx_m251 133 L (rz_rv h a 25 :: S) (rz_mk h ι, w) := rz_gR rfl (by decide) c
theorem g251_133 : rg Z d rx_m251 133 [l0, l1, l2, l3, l4, some (.int x)] S (rz_mk h ι, w) = rg Z d rx_m251 135 [l0, l1, l2, l3, l4, some (.int x)] (.int x :: S) (rz_mk h ι, w) := rz_s1 fun _ => rfl
theorem g251_135 : rg Z d rx_m251 135 [l0, l1, l2, l3, some (.int x), l5] S (rz_mk h ι, w) = rg Z d rx_m251 137 [l0, l1, l2, l3, some (.int x), l5] (.int x :: S) (rz_mk h ι, w) := rz_s1 fun _ => rfl
theorem g251_137 (c : rz_oc h a 12) : rg Z d rx_m251 137 L (v3 :: v2 :: v1 :: .ref a :: [.int s0, .int s1, .int s2, .ref t3]) (rz_mk h ι, w) = rz_k true (rz_f Z d 221 [.ref a, v1, v2, v3] (rz_mk h ι, w)) (fun v σ' => rg Z d rx_m251 140 L (v.toList ++ [.int s0, .int s1, .int s2, .ref t3]) σ') := rz_cv (pc := 137) (n := 3) (mi := 221) (S := v3 :: v2 :: v1 :: .ref a :: [.int s0, .int s1, .int s2, .ref t3]) (rest := [.int s0, .int s1, .int s2, .ref t3]) rfl rfl (Nat.le_of_ble_eq_true rfl) (Nat.le_of_ble_eq_true rfl) c
theorem g251_140 : rg Z d rx_m251 140 L (.int y :: .int x :: S) (rz_mk h ι, w) = rg Z d rx_m251 141 L (.int (x + y) :: S) (rz_mk h ι, w) := rz_s1 fun _ => rfl
theorem g251_141 (c : rz_oc h a 12) : rg Z d rx_m251 141 L (v3 :: v2 :: v1 :: .ref a :: []) (rz_mk h ι, w) = rz_k true (rz_f Z d 251 [.ref a, v1, v2, v3] (rz_mk h ι, w)) (fun v σ' => rg Z d rx_m251 144 L (v.toList ++ []) σ') := rz_cv (pc := 141) (n := 3) (mi := 251) (S := v3 :: v2 :: v1 :: .ref a :: []) (rest := []) rfl rfl (Nat.le_of_ble_eq_true rfl) (Nat.le_of_ble_eq_true rfl) c
theorem g251_144 : rg Z d rx_m251 144 [l0, l1, l2, l3, some (.int z), some (.int x)] S (rz_mk h ι, w) = rg Z d rx_m251 147 [l0, l1, l2, l3, some (.int z), some (.int (x + 1))] S (rz_mk h ι, w) := rz_s1 fun _ => rfl
theorem g251_147 : rg Z d rx_m251 147 L S (rz_mk h ι, w) = rg Z d rx_m251 73 L S (rz_mk h ι, w) := rz_s1 fun _ => rfl
theorem g251_150 : rg Z d rx_m251 150 [some (.ref a), l1, l2, l3, l4, l5] S (rz_mk h ι, w) = rg Z d rx_m251 151 [some (.ref a), l1, l2, l3, l4, l5] (.ref a :: S) (rz_mk h ι, w) := rz_s1 fun _ => rfl
theorem g251_151 (c : rz_fR h a 12 37) : rg Z d rx_m251 151 L (.ref a :: S) (rz_mk h ι, w) = rg Z d rx_m251 154 L (rz_rv h a 37 :: S) (rz_mk h ι, w) := rz_gR rfl (by decide) c
theorem g251_154 : rg Z d rx_m251 154 [l0, l1, l2, l3, some (.int x), l5] S (rz_mk h ι, w) = rg Z d rx_m251 156 [l0, l1, l2, l3, some (.int x), l5] (.int x :: S) (rz_mk h ι, w) := rz_s1 fun _ => rfl
theorem g251_156 : rg Z d rx_m251 156 L S (rz_mk h ι, w) = rg Z d rx_m251 157 L (.int (-1) :: S) (rz_mk h ι, w) := rz_s1 fun _ => rfl
theorem g251_157 (c : rz_ar h a 0) (hi : rz_ix x (rz_ln h a)) (hz : Z.2.1 ≤ a) : rg Z d rx_m251 157 L (.int y :: .int x :: .ref a :: S) (rz_mk h ι, w) = rg Z d rx_m251 158 L S (rz_mk h (rz_up ι a x.toNatClampNeg y), w) := rz_iast rfl c hi hz
theorem g251_158 : rg Z d rx_m251 158 [l0, l1, some (.int x), l3, l4, l5] S (rz_mk h ι, w) = rg Z d rx_m251 159 [l0, l1, some (.int x), l3, l4, l5] (.int x :: S) (rz_mk h ι, w) := rz_s1 fun _ => rfl
theorem g251_159 : rg Z d rx_m251 159 L (.int x :: S) (rz_mk h ι, w) = if x = 0 then rg Z d rx_m251 176 L S (rz_mk h ι, w) else rg Z d rx_m251 162 L S (rz_mk h ι, w) := rz_if1 (pc := 159) (t := 176) (off := 17) (cc := .eq) (by decide) rfl
theorem g251_162 : rg Z d rx_m251 162 [some (.ref a), l1, l2, l3, l4, l5] S (rz_mk h ι, w) = rg Z d rx_m251 163 [some (.ref a), l1, l2, l3, l4, l5] (.ref a :: S) (rz_mk h ι, w) := rz_s1 fun _ => rfl
theorem g251_163 : rg Z d rx_m251 163 [l0, some (.int x), l2, l3, l4, l5] S (rz_mk h ι, w) = rg Z d rx_m251 164 [l0, some (.int x), l2, l3, l4, l5] (.int x :: S) (rz_mk h ι, w) := rz_s1 fun _ => rfl
theorem g251_164 : rg Z d rx_m251 164 L S (rz_mk h ι, w) = rg Z d rx_m251 165 L (.int 1 :: S) (rz_mk h ι, w) := rz_s1 fun _ => rfl
theorem g251_165 : rg Z d rx_m251 165 [l0, l1, l2, l3, some (.int x), l5] S (rz_mk h ι, w) = rg Z d rx_m251 167 [l0, l1, l2, l3, some (.int x), l5] (.int x :: S) (rz_mk h ι, w) := rz_s1 fun _ => rfl
theorem g251_167 : rg Z d rx_m251 167 L (.int y :: .int x :: S) (rz_mk h ι, w) = rg Z d rx_m251 168 L (.int (x <<< (y &&& 31)) :: S) (rz_mk h ι, w) := rz_s1 fun _ => rfl
theorem g251_168 : rg Z d rx_m251 168 L S (rz_mk h ι, w) = rg Z d rx_m251 169 L (.int (-1) :: S) (rz_mk h ι, w) := rz_s1 fun _ => rfl
theorem g251_169 : rg Z d rx_m251 169 L (.int y :: .int x :: S) (rz_mk h ι, w) = rg Z d rx_m251 170 L (.int (x ^^^ y) :: S) (rz_mk h ι, w) := rz_s1 fun _ => rfl
theorem g251_170 : rg Z d rx_m251 170 L (.int y :: .int x :: S) (rz_mk h ι, w) = rg Z d rx_m251 171 L (.int (x &&& y) :: S) (rz_mk h ι, w) := rz_s1 fun _ => rfl
theorem g251_171 : rg Z d rx_m251 171 L S (rz_mk h ι, w) = rg Z d rx_m251 172 L (.int 0 :: S) (rz_mk h ι, w) := rz_s1 fun _ => rfl
theorem g251_172 : rg Z d rx_m251 172 [l0, l1, l2, some (.int x), l4, l5] S (rz_mk h ι, w) = rg Z d rx_m251 173 [l0, l1, l2, some (.int x), l4, l5] (.int x :: S) (rz_mk h ι, w) := rz_s1 fun _ => rfl
theorem g251_173 (c : rz_oc h a 12) : rg Z d rx_m251 173 L (v3 :: v2 :: v1 :: .ref a :: []) (rz_mk h ι, w) = rz_k true (rz_f Z d 251 [.ref a, v1, v2, v3] (rz_mk h ι, w)) (fun v σ' => rg Z d rx_m251 176 L (v.toList ++ []) σ') := rz_cv (pc := 173) (n := 3) (mi := 251) (S := v3 :: v2 :: v1 :: .ref a :: []) (rest := []) rfl rfl (Nat.le_of_ble_eq_true rfl) (Nat.le_of_ble_eq_true rfl) c
theorem g251_176 : rg Z d rx_m251 176 L [] (rz_mk h ι, w) = some (.inl none, (rz_mk h ι, w)) := rz_r1 fun _ => rfl
theorem e251 : rz_f Z (d + 1) 251 [.ref t0, .int s1, .int s2, .int s3] σ = rg Z d rx_m251 0 [some (.ref t0), some (.int s1), some (.int s2), some (.int s3), none, none] [] σ := rz_f_eq rfl (Nat.le_of_ble_eq_true rfl)
theorem g252_0 : rg Z d rx_m252 0 [some (.ref a), l1] S (rz_mk h ι, w) = rg Z d rx_m252 1 [some (.ref a), l1] (.ref a :: S) (rz_mk h ι, w) := rz_s1 fun _ => rfl
theorem g252_1 : rg Z d rx_m252 1 L S (rz_mk h ι, w) = rg Z d rx_m252 2 L (.int (-1) :: S) (rz_mk h ι, w) := rz_s1 fun _ => rfl
theorem g252_2 (c : rz_fI h a 12 39) (hz : Z.2.1 ≤ a) : rg Z d rx_m252 2 L (.int x :: .ref a :: S) (rz_mk h ι, w) = rg Z d rx_m252 5 L S (rz_mk h (rz_up ι a 39 x), w) := rz_pI rfl c hz
theorem g252_5 : rg Z d rx_m252 5 L S (rz_mk h ι, w) = rg Z d rx_m252 6 L (.int 0 :: S) (rz_mk h ι, w) := rz_s1 fun _ => rfl
theorem g252_6 : rg Z d rx_m252 6 [some (.ref b), l1] (.int x :: S) (rz_mk h ι, w) = rg Z d rx_m252 7 [some (.ref b), some (.int x)] S (rz_mk h ι, w) := rz_s1 fun _ => rfl
theorem g252_7 : rg Z d rx_m252 7 [l0, some (.int x)] S (rz_mk h ι, w) = rg Z d rx_m252 8 [l0, some (.int x)] (.int x :: S) (rz_mk h ι, w) := rz_s1 fun _ => rfl
theorem g252_8 : rg Z d rx_m252 8 L S (rz_mk h ι, w) = rg Z d rx_m252 10 L (.int 8 :: S) (rz_mk h ι, w) := rz_s1 fun _ => rfl
theorem g252_10 : rg Z d rx_m252 10 L (.int y :: .int x :: S) (rz_mk h ι, w) = if x < y then rg Z d rx_m252 13 L S (rz_mk h ι, w) else rg Z d rx_m252 26 L S (rz_mk h ι, w) := rz_if2 (pc := 10) (t := 26) (off := 16) (cc := .ge) (by decide) rfl
theorem g252_13 : rg Z d rx_m252 13 [some (.ref a), l1] S (rz_mk h ι, w) = rg Z d rx_m252 14 [some (.ref a), l1] (.ref a :: S) (rz_mk h ι, w) := rz_s1 fun _ => rfl
theorem g252_14 (c : rz_fR h a 12 37) : rg Z d rx_m252 14 L (.ref a :: S) (rz_mk h ι, w) = rg Z d rx_m252 17 L (rz_rv h a 37 :: S) (rz_mk h ι, w) := rz_gR rfl (by decide) c
theorem g252_17 : rg Z d rx_m252 17 [l0, some (.int x)] S (rz_mk h ι, w) = rg Z d rx_m252 18 [l0, some (.int x)] (.int x :: S) (rz_mk h ι, w) := rz_s1 fun _ => rfl
theorem g252_18 : rg Z d rx_m252 18 L S (rz_mk h ι, w) = rg Z d rx_m252 19 L (.int (-1) :: S) (rz_mk h ι, w) := rz_s1 fun _ => rfl
theorem g252_19 (c : rz_ar h a 0) (hi : rz_ix x (rz_ln h a)) (hz : Z.2.1 ≤ a) : rg Z d rx_m252 19 L (.int y :: .int x :: .ref a :: S) (rz_mk h ι, w) = rg Z d rx_m252 20 L S (rz_mk h (rz_up ι a x.toNatClampNeg y), w) := rz_iast rfl c hi hz
theorem g252_20 : rg Z d rx_m252 20 [some (.ref b), some (.int x)] S (rz_mk h ι, w) = rg Z d rx_m252 23 [some (.ref b), some (.int (x + 1))] S (rz_mk h ι, w) := rz_s1 fun _ => rfl
theorem g252_23 : rg Z d rx_m252 23 L S (rz_mk h ι, w) = rg Z d rx_m252 7 L S (rz_mk h ι, w) := rz_s1 fun _ => rfl
theorem g252_26 : rg Z d rx_m252 26 [some (.ref a), l1] S (rz_mk h ι, w) = rg Z d rx_m252 27 [some (.ref a), l1] (.ref a :: S) (rz_mk h ι, w) := rz_s1 fun _ => rfl
theorem g252_27 : rg Z d rx_m252 27 [some (.ref a), l1] S (rz_mk h ι, w) = rg Z d rx_m252 28 [some (.ref a), l1] (.ref a :: S) (rz_mk h ι, w) := rz_s1 fun _ => rfl
theorem g252_28 (c : rz_fR h a 12 25) : rg Z d rx_m252 28 L (.ref a :: S) (rz_mk h ι, w) = rg Z d rx_m252 31 L (rz_rv h a 25 :: S) (rz_mk h ι, w) := rz_gR rfl (by decide) c
theorem g252_31 : rg Z d rx_m252 31 L S (rz_mk h ι, w) = rg Z d rx_m252 33 L (.int 56 :: S) (rz_mk h ι, w) := rz_s1 fun _ => rfl
theorem g252_33 (c : rz_ar h a 0) (hi : rz_ix x (rz_ln h a)) : rg Z d rx_m252 33 L (.int x :: .ref a :: S) (rz_mk h ι, w) = rg Z d rx_m252 34 L (.int (ι a x.toNatClampNeg) :: S) (rz_mk h ι, w) := rz_iald rfl c hi
theorem g252_34 : rg Z d rx_m252 34 [some (.ref a), l1] S (rz_mk h ι, w) = rg Z d rx_m252 35 [some (.ref a), l1] (.ref a :: S) (rz_mk h ι, w) := rz_s1 fun _ => rfl
theorem g252_35 (c : rz_fR h a 12 25) : rg Z d rx_m252 35 L (.ref a :: S) (rz_mk h ι, w) = rg Z d rx_m252 38 L (rz_rv h a 25 :: S) (rz_mk h ι, w) := rz_gR rfl (by decide) c
theorem g252_38 : rg Z d rx_m252 38 L S (rz_mk h ι, w) = rg Z d rx_m252 40 L (.int 56 :: S) (rz_mk h ι, w) := rz_s1 fun _ => rfl
theorem g252_40 (c : rz_ar h a 0) (hi : rz_ix x (rz_ln h a)) : rg Z d rx_m252 40 L (.int x :: .ref a :: S) (rz_mk h ι, w) = rg Z d rx_m252 41 L (.int (ι a x.toNatClampNeg) :: S) (rz_mk h ι, w) := rz_iald rfl c hi
theorem g252_41 : rg Z d rx_m252 41 L (v1 :: [.int s0, .ref t1]) (rz_mk h ι, w) = rz_k true (rz_f Z d 234 [v1] (rz_mk h ι, w)) (fun v σ' => rg Z d rx_m252 44 L (v.toList ++ [.int s0, .ref t1]) σ') := rz_cs (pc := 41) (n := 1) (mi := 234) (S := v1 :: [.int s0, .ref t1]) (rest := [.int s0, .ref t1]) rfl rfl (Nat.le_of_ble_eq_true rfl) (Nat.le_of_ble_eq_true rfl)
theorem g252_44 : rg Z d rx_m252 44 L S (rz_mk h ι, w) = rg Z d rx_m252 45 L (.int 2 :: S) (rz_mk h ι, w) := rz_s1 fun _ => rfl
theorem g252_45 : rg Z d rx_m252 45 L (.int 2 :: .int x :: S) (rz_mk h ι, w) = rg Z d rx_m252 46 L (.int (x - x / 2 * 2) :: S) (rz_mk h ι, w) := rz_rem rfl (by decide)
theorem g252_46 : rg Z d rx_m252 46 L S (rz_mk h ι, w) = rg Z d rx_m252 47 L (.int 1 :: S) (rz_mk h ι, w) := rz_s1 fun _ => rfl
theorem g252_47 : rg Z d rx_m252 47 L (.int y :: .int x :: S) (rz_mk h ι, w) = if x = y then rg Z d rx_m252 50 L S (rz_mk h ι, w) else rg Z d rx_m252 54 L S (rz_mk h ι, w) := rz_if2 (pc := 47) (t := 54) (off := 7) (cc := .ne) (by decide) rfl
theorem g252_50 : rg Z d rx_m252 50 L S (rz_mk h ι, w) = rg Z d rx_m252 51 L (.int 1 :: S) (rz_mk h ι, w) := rz_s1 fun _ => rfl
theorem g252_51 : rg Z d rx_m252 51 L S (rz_mk h ι, w) = rg Z d rx_m252 55 L S (rz_mk h ι, w) := rz_s1 fun _ => rfl
theorem g252_54 : rg Z d rx_m252 54 L S (rz_mk h ι, w) = rg Z d rx_m252 55 L (.int 0 :: S) (rz_mk h ι, w) := rz_s1 fun _ => rfl
theorem g252_55 : rg Z d rx_m252 55 L S (rz_mk h ι, w) = rg Z d rx_m252 56 L (.int 0 :: S) (rz_mk h ι, w) := rz_s1 fun _ => rfl
theorem g252_56 (c : rz_oc h a 12) : rg Z d rx_m252 56 L (v3 :: v2 :: v1 :: .ref a :: []) (rz_mk h ι, w) = rz_k true (rz_f Z d 251 [.ref a, v1, v2, v3] (rz_mk h ι, w)) (fun v σ' => rg Z d rx_m252 59 L (v.toList ++ []) σ') := rz_cv (pc := 56) (n := 3) (mi := 251) (S := v3 :: v2 :: v1 :: .ref a :: []) (rest := []) rfl rfl (Nat.le_of_ble_eq_true rfl) (Nat.le_of_ble_eq_true rfl) c
theorem g252_59 : rg Z d rx_m252 59 L [] (rz_mk h ι, w) = some (.inl none, (rz_mk h ι, w)) := rz_r1 fun _ => rfl
theorem e252 : rz_f Z (d + 1) 252 [.ref t0] σ = rg Z d rx_m252 0 [some (.ref t0), none] [] σ := rz_f_eq rfl (Nat.le_of_ble_eq_true rfl)
theorem g253_0 : rg Z d rx_m253 0 [some (.ref a)] S (rz_mk h ι, w) = rg Z d rx_m253 1 [some (.ref a)] (.ref a :: S) (rz_mk h ι, w) := rz_s1 fun _ => rfl
theorem g253_1 : rg Z d rx_m253 1 L S (rz_mk h ι, w) = rg Z d rx_m253 2 L (.int 0 :: S) (rz_mk h ι, w) := rz_s1 fun _ => rfl
theorem g253_2 (c : rz_fI h a 12 0) (hz : Z.2.1 ≤ a) : rg Z d rx_m253 2 L (.int x :: .ref a :: S) (rz_mk h ι, w) = rg Z d rx_m253 5 L S (rz_mk h (rz_up ι a 0 x), w) := rz_pI rfl c hz
theorem g253_5 : rg Z d rx_m253 5 [some (.ref a)] S (rz_mk h ι, w) = rg Z d rx_m253 6 [some (.ref a)] (.ref a :: S) (rz_mk h ι, w) := rz_s1 fun _ => rfl
theorem g253_6 (c : rz_oc h a 12) : rg Z d rx_m253 6 L (.ref a :: []) (rz_mk h ι, w) = rz_k true (rz_f Z d 252 [.ref a] (rz_mk h ι, w)) (fun v σ' => rg Z d rx_m253 9 L (v.toList ++ []) σ') := rz_cv (pc := 6) (n := 0) (mi := 252) (S := .ref a :: []) (rest := []) rfl rfl (Nat.le_of_ble_eq_true rfl) (Nat.le_of_ble_eq_true rfl) c
theorem g253_9 : rg Z d rx_m253 9 [some (.ref a)] S (rz_mk h ι, w) = rg Z d rx_m253 10 [some (.ref a)] (.ref a :: S) (rz_mk h ι, w) := rz_s1 fun _ => rfl
theorem g253_10 (c : rz_fI h a 12 39) : rg Z d rx_m253 10 L (.ref a :: S) (rz_mk h ι, w) = rg Z d rx_m253 13 L (.int (ι a 39) :: S) (rz_mk h ι, w) := rz_gI rfl (by decide) c
theorem g253_13 : rg Z d rx_m253 13 L [.int x] (rz_mk h ι, w) = some (.inl (some (.int x)), (rz_mk h ι, w)) := rz_reti rfl rfl rfl
theorem e253 : rz_f Z (d + 1) 253 [.ref t0] σ = rg Z d rx_m253 0 [some (.ref t0)] [] σ := rz_f_eq rfl (Nat.le_of_ble_eq_true rfl)
theorem g254_0 : rg Z d rx_m254 0 [some (.ref a), l1] S (rz_mk h ι, w) = rg Z d rx_m254 1 [some (.ref a), l1] (.ref a :: S) (rz_mk h ι, w) := rz_s1 fun _ => rfl
theorem g254_1 : rg Z d rx_m254 1 L S (rz_mk h ι, w) = rg Z d rx_m254 2 L (.int 0 :: S) (rz_mk h ι, w) := rz_s1 fun _ => rfl
theorem g254_2 (c : rz_fI h a 12 0) (hz : Z.2.1 ≤ a) : rg Z d rx_m254 2 L (.int x :: .ref a :: S) (rz_mk h ι, w) = rg Z d rx_m254 5 L S (rz_mk h (rz_up ι a 0 x), w) := rz_pI rfl c hz
theorem g254_5 : rg Z d rx_m254 5 [some (.ref a), l1] S (rz_mk h ι, w) = rg Z d rx_m254 6 [some (.ref a), l1] (.ref a :: S) (rz_mk h ι, w) := rz_s1 fun _ => rfl
theorem g254_6 : rg Z d rx_m254 6 [some (.ref a), l1] S (rz_mk h ι, w) = rg Z d rx_m254 7 [some (.ref a), l1] (.ref a :: S) (rz_mk h ι, w) := rz_s1 fun _ => rfl
theorem g254_7 : rg Z d rx_m254 7 [l0, some (.int x)] S (rz_mk h ι, w) = rg Z d rx_m254 8 [l0, some (.int x)] (.int x :: S) (rz_mk h ι, w) := rz_s1 fun _ => rfl
theorem g254_8 (c : rz_oc h a 12) : rg Z d rx_m254 8 L (v1 :: .ref a :: [.ref t0]) (rz_mk h ι, w) = rz_k true (rz_f Z d 236 [.ref a, v1] (rz_mk h ι, w)) (fun v σ' => rg Z d rx_m254 11 L (v.toList ++ [.ref t0]) σ') := rz_cv (pc := 8) (n := 1) (mi := 236) (S := v1 :: .ref a :: [.ref t0]) (rest := [.ref t0]) rfl rfl (Nat.le_of_ble_eq_true rfl) (Nat.le_of_ble_eq_true rfl) c
theorem g254_11 : rg Z d rx_m254 11 L (.int x :: S) (rz_mk h ι, w) = if x = 0 then rg Z d rx_m254 14 L S (rz_mk h ι, w) else rg Z d rx_m254 18 L S (rz_mk h ι, w) := rz_if1 (pc := 11) (t := 18) (off := 7) (cc := .ne) (by decide) rfl
theorem g254_14 : rg Z d rx_m254 14 L S (rz_mk h ι, w) = rg Z d rx_m254 15 L (.int 1 :: S) (rz_mk h ι, w) := rz_s1 fun _ => rfl
theorem g254_15 : rg Z d rx_m254 15 L S (rz_mk h ι, w) = rg Z d rx_m254 19 L S (rz_mk h ι, w) := rz_s1 fun _ => rfl
theorem g254_18 : rg Z d rx_m254 18 L S (rz_mk h ι, w) = rg Z d rx_m254 19 L (.int 0 :: S) (rz_mk h ι, w) := rz_s1 fun _ => rfl
theorem g254_19 : rg Z d rx_m254 19 L S (rz_mk h ι, w) = rg Z d rx_m254 20 L (.int 1 :: S) (rz_mk h ι, w) := rz_s1 fun _ => rfl
theorem g254_20 : rg Z d rx_m254 20 L S (rz_mk h ι, w) = rg Z d rx_m254 21 L (.int 0 :: S) (rz_mk h ι, w) := rz_s1 fun _ => rfl
theorem g254_21 (c : rz_oc h a 12) : rg Z d rx_m254 21 L (v3 :: v2 :: v1 :: .ref a :: []) (rz_mk h ι, w) = rz_k true (rz_f Z d 174 [.ref a, v1, v2, v3] (rz_mk h ι, w)) (fun v σ' => rg Z d rx_m254 24 L (v.toList ++ []) σ') := rz_cv (pc := 21) (n := 3) (mi := 174) (S := v3 :: v2 :: v1 :: .ref a :: []) (rest := []) rfl rfl (Nat.le_of_ble_eq_true rfl) (Nat.le_of_ble_eq_true rfl) c
theorem g254_24 : rg Z d rx_m254 24 L (.int x :: S) (rz_mk h ι, w) = if x = 0 then rg Z d rx_m254 29 L S (rz_mk h ι, w) else rg Z d rx_m254 27 L S (rz_mk h ι, w) := rz_if1 (pc := 24) (t := 29) (off := 5) (cc := .eq) (by decide) rfl
theorem g254_27 : rg Z d rx_m254 27 L S (rz_mk h ι, w) = rg Z d rx_m254 28 L (.int 0 :: S) (rz_mk h ι, w) := rz_s1 fun _ => rfl
theorem g254_28 : rg Z d rx_m254 28 L [.int x] (rz_mk h ι, w) = some (.inl (some (.int x)), (rz_mk h ι, w)) := rz_reti rfl rfl rfl
theorem g254_29 : rg Z d rx_m254 29 [some (.ref a), l1] S (rz_mk h ι, w) = rg Z d rx_m254 30 [some (.ref a), l1] (.ref a :: S) (rz_mk h ι, w) := rz_s1 fun _ => rfl
theorem g254_30 (c : rz_oc h a 12) : rg Z d rx_m254 30 L (.ref a :: []) (rz_mk h ι, w) = rz_k true (rz_f Z d 252 [.ref a] (rz_mk h ι, w)) (fun v σ' => rg Z d rx_m254 33 L (v.toList ++ []) σ') := rz_cv (pc := 30) (n := 0) (mi := 252) (S := .ref a :: []) (rest := []) rfl rfl (Nat.le_of_ble_eq_true rfl) (Nat.le_of_ble_eq_true rfl) c
theorem g254_33 : rg Z d rx_m254 33 [some (.ref a), l1] S (rz_mk h ι, w) = rg Z d rx_m254 34 [some (.ref a), l1] (.ref a :: S) (rz_mk h ι, w) := rz_s1 fun _ => rfl
theorem g254_34 (c : rz_fR h a 12 38) : rg Z d rx_m254 34 L (.ref a :: S) (rz_mk h ι, w) = rg Z d rx_m254 37 L (rz_rv h a 38 :: S) (rz_mk h ι, w) := rz_gR rfl (by decide) c
theorem g254_37 : rg Z d rx_m254 37 [l0, some (.int x)] S (rz_mk h ι, w) = rg Z d rx_m254 38 [l0, some (.int x)] (.int x :: S) (rz_mk h ι, w) := rz_s1 fun _ => rfl
theorem g254_38 (c : rz_ar h a 0) (hi : rz_ix x (rz_ln h a)) : rg Z d rx_m254 38 L (.int x :: .ref a :: S) (rz_mk h ι, w) = rg Z d rx_m254 39 L (.int (ι a x.toNatClampNeg) :: S) (rz_mk h ι, w) := rz_iald rfl c hi
theorem g254_39 : rg Z d rx_m254 39 L [.int x] (rz_mk h ι, w) = some (.inl (some (.int x)), (rz_mk h ι, w)) := rz_reti rfl rfl rfl
theorem e254 : rz_f Z (d + 1) 254 [.ref t0, .int s1] σ = rg Z d rx_m254 0 [some (.ref t0), some (.int s1)] [] σ := rz_f_eq rfl (Nat.le_of_ble_eq_true rfl)
theorem g255_0 : rg Z d rx_m255 0 [l0, l1, some (.int x), l3, l4] S (rz_mk h ι, w) = rg Z d rx_m255 1 [l0, l1, some (.int x), l3, l4] (.int x :: S) (rz_mk h ι, w) := rz_s1 fun _ => rfl
theorem g255_1 : rg Z d rx_m255 1 [some (.ref a), l1, l2, l3, l4] S (rz_mk h ι, w) = rg Z d rx_m255 2 [some (.ref a), l1, l2, l3, l4] (.ref a :: S) (rz_mk h ι, w) := rz_s1 fun _ => rfl
theorem g255_2 (c : rz_fI h a 12 42) : rg Z d rx_m255 2 L (.ref a :: S) (rz_mk h ι, w) = rg Z d rx_m255 5 L (.int (ι a 42) :: S) (rz_mk h ι, w) := rz_gI rfl (by decide) c
theorem g255_5 : rg Z d rx_m255 5 L (.int y :: .int x :: S) (rz_mk h ι, w) = if y < x then rg Z d rx_m255 8 L S (rz_mk h ι, w) else rg Z d rx_m255 42 L S (rz_mk h ι, w) := rz_if2 (pc := 5) (t := 42) (off := 37) (cc := .le) (by decide) rfl
theorem g255_8 : rg Z d rx_m255 8 [some (.ref a), l1, l2, l3, l4] S (rz_mk h ι, w) = rg Z d rx_m255 9 [some (.ref a), l1, l2, l3, l4] (.ref a :: S) (rz_mk h ι, w) := rz_s1 fun _ => rfl
theorem g255_9 : rg Z d rx_m255 9 [l0, l1, some (.int x), l3, l4] S (rz_mk h ι, w) = rg Z d rx_m255 10 [l0, l1, some (.int x), l3, l4] (.int x :: S) (rz_mk h ι, w) := rz_s1 fun _ => rfl
theorem g255_10 (c : rz_fI h a 12 42) (hz : Z.2.1 ≤ a) : rg Z d rx_m255 10 L (.int x :: .ref a :: S) (rz_mk h ι, w) = rg Z d rx_m255 13 L S (rz_mk h (rz_up ι a 42 x), w) := rz_pI rfl c hz
theorem g255_13 : rg Z d rx_m255 13 L S (rz_mk h ι, w) = rg Z d rx_m255 14 L (.int 0 :: S) (rz_mk h ι, w) := rz_s1 fun _ => rfl
theorem g255_14 : rg Z d rx_m255 14 [l0, l1, l2, some (.int z), l4] (.int x :: S) (rz_mk h ι, w) = rg Z d rx_m255 16 [l0, l1, l2, some (.int z), some (.int x)] S (rz_mk h ι, w) := rz_s1 fun _ => rfl
theorem g255_16 : rg Z d rx_m255 16 [l0, l1, l2, l3, some (.int x)] S (rz_mk h ι, w) = rg Z d rx_m255 18 [l0, l1, l2, l3, some (.int x)] (.int x :: S) (rz_mk h ι, w) := rz_s1 fun _ => rfl
theorem g255_18 : rg Z d rx_m255 18 [l0, l1, some (.int x), l3, l4] S (rz_mk h ι, w) = rg Z d rx_m255 19 [l0, l1, some (.int x), l3, l4] (.int x :: S) (rz_mk h ι, w) := rz_s1 fun _ => rfl
theorem g255_19 : rg Z d rx_m255 19 L (.int y :: .int x :: S) (rz_mk h ι, w) = if x < y then rg Z d rx_m255 22 L S (rz_mk h ι, w) else rg Z d rx_m255 42 L S (rz_mk h ι, w) := rz_if2 (pc := 19) (t := 42) (off := 23) (cc := .ge) (by decide) rfl
theorem g255_22 : rg Z d rx_m255 22 [some (.ref a), l1, l2, l3, l4] S (rz_mk h ι, w) = rg Z d rx_m255 23 [some (.ref a), l1, l2, l3, l4] (.ref a :: S) (rz_mk h ι, w) := rz_s1 fun _ => rfl
theorem g255_23 (c : rz_fR h a 12 41) : rg Z d rx_m255 23 L (.ref a :: S) (rz_mk h ι, w) = rg Z d rx_m255 26 L (rz_rv h a 41 :: S) (rz_mk h ι, w) := rz_gR rfl (by decide) c
theorem g255_26 : rg Z d rx_m255 26 [l0, l1, l2, l3, some (.int x)] S (rz_mk h ι, w) = rg Z d rx_m255 28 [l0, l1, l2, l3, some (.int x)] (.int x :: S) (rz_mk h ι, w) := rz_s1 fun _ => rfl
theorem g255_28 : rg Z d rx_m255 28 [some (.ref a), l1, l2, l3, l4] S (rz_mk h ι, w) = rg Z d rx_m255 29 [some (.ref a), l1, l2, l3, l4] (.ref a :: S) (rz_mk h ι, w) := rz_s1 fun _ => rfl
theorem g255_29 (c : rz_fR h a 12 40) : rg Z d rx_m255 29 L (.ref a :: S) (rz_mk h ι, w) = rg Z d rx_m255 32 L (rz_rv h a 40 :: S) (rz_mk h ι, w) := rz_gR rfl (by decide) c
theorem g255_32 : rg Z d rx_m255 32 [l0, l1, l2, l3, some (.int x)] S (rz_mk h ι, w) = rg Z d rx_m255 34 [l0, l1, l2, l3, some (.int x)] (.int x :: S) (rz_mk h ι, w) := rz_s1 fun _ => rfl
theorem g255_34 (c : rz_ar h a 0) (hi : rz_ix x (rz_ln h a)) : rg Z d rx_m255 34 L (.int x :: .ref a :: S) (rz_mk h ι, w) = rg Z d rx_m255 35 L (.int (ι a x.toNatClampNeg) :: S) (rz_mk h ι, w) := rz_iald rfl c hi
theorem g255_35 (c : rz_ar h a 0) (hi : rz_ix x (rz_ln h a)) (hz : Z.2.1 ≤ a) : rg Z d rx_m255 35 L (.int y :: .int x :: .ref a :: S) (rz_mk h ι, w) = rg Z d rx_m255 36 L S (rz_mk h (rz_up ι a x.toNatClampNeg y), w) := rz_iast rfl c hi hz
theorem g255_36 : rg Z d rx_m255 36 [l0, l1, l2, some (.int z), some (.int x)] S (rz_mk h ι, w) = rg Z d rx_m255 39 [l0, l1, l2, some (.int z), some (.int (x + 1))] S (rz_mk h ι, w) := rz_s1 fun _ => rfl
theorem g255_39 : rg Z d rx_m255 39 L S (rz_mk h ι, w) = rg Z d rx_m255 16 L S (rz_mk h ι, w) := rz_s1 fun _ => rfl
theorem g255_42 : rg Z d rx_m255 42 L S (rz_mk h ι, w) = rg Z d rx_m255 43 L (.int 0 :: S) (rz_mk h ι, w) := rz_s1 fun _ => rfl
theorem g255_43 : rg Z d rx_m255 43 [l0, l1, l2, some (.int z), l4] (.int x :: S) (rz_mk h ι, w) = rg Z d rx_m255 45 [l0, l1, l2, some (.int z), some (.int x)] S (rz_mk h ι, w) := rz_s1 fun _ => rfl
theorem g255_45 : rg Z d rx_m255 45 [l0, l1, l2, l3, some (.int x)] S (rz_mk h ι, w) = rg Z d rx_m255 47 [l0, l1, l2, l3, some (.int x)] (.int x :: S) (rz_mk h ι, w) := rz_s1 fun _ => rfl
theorem g255_47 : rg Z d rx_m255 47 [some (.ref a), l1, l2, l3, l4] S (rz_mk h ι, w) = rg Z d rx_m255 48 [some (.ref a), l1, l2, l3, l4] (.ref a :: S) (rz_mk h ι, w) := rz_s1 fun _ => rfl
theorem g255_48 (c : rz_fR h a 12 25) : rg Z d rx_m255 48 L (.ref a :: S) (rz_mk h ι, w) = rg Z d rx_m255 51 L (rz_rv h a 25 :: S) (rz_mk h ι, w) := rz_gR rfl (by decide) c
theorem g255_51 : rg Z d rx_m255 51 L S (rz_mk h ι, w) = rg Z d rx_m255 53 L (.int 57 :: S) (rz_mk h ι, w) := rz_s1 fun _ => rfl
theorem g255_53 (c : rz_ar h a 0) (hi : rz_ix x (rz_ln h a)) : rg Z d rx_m255 53 L (.int x :: .ref a :: S) (rz_mk h ι, w) = rg Z d rx_m255 54 L (.int (ι a x.toNatClampNeg) :: S) (rz_mk h ι, w) := rz_iald rfl c hi
theorem g255_54 : rg Z d rx_m255 54 L (.int y :: .int x :: S) (rz_mk h ι, w) = if x < y then rg Z d rx_m255 57 L S (rz_mk h ι, w) else rg Z d rx_m255 153 L S (rz_mk h ι, w) := rz_if2 (pc := 54) (t := 153) (off := 99) (cc := .ge) (by decide) rfl
theorem g255_57 : rg Z d rx_m255 57 [l0, l1, l2, some (.int x), l4] S (rz_mk h ι, w) = rg Z d rx_m255 58 [l0, l1, l2, some (.int x), l4] (.int x :: S) (rz_mk h ι, w) := rz_s1 fun _ => rfl
theorem g255_58 : rg Z d rx_m255 58 [l0, l1, l2, l3, some (.int x)] S (rz_mk h ι, w) = rg Z d rx_m255 60 [l0, l1, l2, l3, some (.int x)] (.int x :: S) (rz_mk h ι, w) := rz_s1 fun _ => rfl
theorem g255_60 : rg Z d rx_m255 60 L (v2 :: v1 :: []) (rz_mk h ι, w) = rz_k true (rz_f Z d 178 [v1, v2] (rz_mk h ι, w)) (fun v σ' => rg Z d rx_m255 63 L (v.toList ++ []) σ') := rz_cs (pc := 60) (n := 2) (mi := 178) (S := v2 :: v1 :: []) (rest := []) rfl rfl (Nat.le_of_ble_eq_true rfl) (Nat.le_of_ble_eq_true rfl)
theorem g255_63 : rg Z d rx_m255 63 L (.int x :: S) (rz_mk h ι, w) = if x = 0 then rg Z d rx_m255 66 L S (rz_mk h ι, w) else rg Z d rx_m255 147 L S (rz_mk h ι, w) := rz_if1 (pc := 63) (t := 147) (off := 84) (cc := .ne) (by decide) rfl
theorem g255_66 : rg Z d rx_m255 66 [some (.ref a), l1, l2, l3, l4] S (rz_mk h ι, w) = rg Z d rx_m255 67 [some (.ref a), l1, l2, l3, l4] (.ref a :: S) (rz_mk h ι, w) := rz_s1 fun _ => rfl
theorem g255_67 (c : rz_fR h a 12 25) : rg Z d rx_m255 67 L (.ref a :: S) (rz_mk h ι, w) = rg Z d rx_m255 70 L (rz_rv h a 25 :: S) (rz_mk h ι, w) := rz_gR rfl (by decide) c
theorem g255_70 : rg Z d rx_m255 70 [l0, l1, l2, l3, some (.int x)] S (rz_mk h ι, w) = rg Z d rx_m255 72 [l0, l1, l2, l3, some (.int x)] (.int x :: S) (rz_mk h ι, w) := rz_s1 fun _ => rfl
theorem g255_72 : rg Z d rx_m255 72 L (v2 :: v1 :: []) (rz_mk h ι, w) = rz_k true (rz_f Z d 222 [v1, v2] (rz_mk h ι, w)) (fun v σ' => rg Z d rx_m255 75 L (v.toList ++ []) σ') := rz_cs (pc := 72) (n := 2) (mi := 222) (S := v2 :: v1 :: []) (rest := []) rfl rfl (Nat.le_of_ble_eq_true rfl) (Nat.le_of_ble_eq_true rfl)
theorem g255_75 : rg Z d rx_m255 75 L (.int x :: S) (rz_mk h ι, w) = if x = 0 then rg Z d rx_m255 147 L S (rz_mk h ι, w) else rg Z d rx_m255 78 L S (rz_mk h ι, w) := rz_if1 (pc := 75) (t := 147) (off := 72) (cc := .eq) (by decide) rfl
theorem g255_78 : rg Z d rx_m255 78 [l0, l1, some (.int x), l3, l4] S (rz_mk h ι, w) = rg Z d rx_m255 79 [l0, l1, some (.int x), l3, l4] (.int x :: S) (rz_mk h ι, w) := rz_s1 fun _ => rfl
theorem g255_79 : rg Z d rx_m255 79 L (.int x :: S) (rz_mk h ι, w) = if 0 < x then rg Z d rx_m255 82 L S (rz_mk h ι, w) else rg Z d rx_m255 107 L S (rz_mk h ι, w) := rz_if1 (pc := 79) (t := 107) (off := 28) (cc := .le) (by decide) rfl
theorem g255_82 : rg Z d rx_m255 82 [some (.ref a), l1, l2, l3, l4] S (rz_mk h ι, w) = rg Z d rx_m255 83 [some (.ref a), l1, l2, l3, l4] (.ref a :: S) (rz_mk h ι, w) := rz_s1 fun _ => rfl
theorem g255_83 : rg Z d rx_m255 83 [some (.ref a), l1, l2, l3, l4] S (rz_mk h ι, w) = rg Z d rx_m255 84 [some (.ref a), l1, l2, l3, l4] (.ref a :: S) (rz_mk h ι, w) := rz_s1 fun _ => rfl
theorem g255_84 (c : rz_fR h a 12 25) : rg Z d rx_m255 84 L (.ref a :: S) (rz_mk h ι, w) = rg Z d rx_m255 87 L (rz_rv h a 25 :: S) (rz_mk h ι, w) := rz_gR rfl (by decide) c
theorem g255_87 : rg Z d rx_m255 87 [l0, l1, l2, l3, some (.int x)] S (rz_mk h ι, w) = rg Z d rx_m255 89 [l0, l1, l2, l3, some (.int x)] (.int x :: S) (rz_mk h ι, w) := rz_s1 fun _ => rfl
theorem g255_89 : rg Z d rx_m255 89 [some (.ref a), l1, l2, l3, l4] S (rz_mk h ι, w) = rg Z d rx_m255 90 [some (.ref a), l1, l2, l3, l4] (.ref a :: S) (rz_mk h ι, w) := rz_s1 fun _ => rfl
theorem g255_90 (c : rz_fR h a 12 40) : rg Z d rx_m255 90 L (.ref a :: S) (rz_mk h ι, w) = rg Z d rx_m255 93 L (rz_rv h a 40 :: S) (rz_mk h ι, w) := rz_gR rfl (by decide) c
theorem g255_93 : rg Z d rx_m255 93 [l0, l1, some (.int x), l3, l4] S (rz_mk h ι, w) = rg Z d rx_m255 94 [l0, l1, some (.int x), l3, l4] (.int x :: S) (rz_mk h ι, w) := rz_s1 fun _ => rfl
theorem g255_94 : rg Z d rx_m255 94 L S (rz_mk h ι, w) = rg Z d rx_m255 95 L (.int 1 :: S) (rz_mk h ι, w) := rz_s1 fun _ => rfl
theorem g255_95 : rg Z d rx_m255 95 L (.int y :: .int x :: S) (rz_mk h ι, w) = rg Z d rx_m255 96 L (.int (x - y) :: S) (rz_mk h ι, w) := rz_s1 fun _ => rfl
theorem g255_96 (c : rz_ar h a 0) (hi : rz_ix x (rz_ln h a)) : rg Z d rx_m255 96 L (.int x :: .ref a :: S) (rz_mk h ι, w) = rg Z d rx_m255 97 L (.int (ι a x.toNatClampNeg) :: S) (rz_mk h ι, w) := rz_iald rfl c hi
theorem g255_97 (c : rz_oc h a 12) : rg Z d rx_m255 97 L (v3 :: v2 :: v1 :: .ref a :: []) (rz_mk h ι, w) = rz_k true (rz_f Z d 221 [.ref a, v1, v2, v3] (rz_mk h ι, w)) (fun v σ' => rg Z d rx_m255 100 L (v.toList ++ []) σ') := rz_cv (pc := 97) (n := 3) (mi := 221) (S := v3 :: v2 :: v1 :: .ref a :: []) (rest := []) rfl rfl (Nat.le_of_ble_eq_true rfl) (Nat.le_of_ble_eq_true rfl) c
theorem g255_100 : rg Z d rx_m255 100 [l0, some (.int x), l2, l3, l4] S (rz_mk h ι, w) = rg Z d rx_m255 101 [l0, some (.int x), l2, l3, l4] (.int x :: S) (rz_mk h ι, w) := rz_s1 fun _ => rfl
theorem g255_101 : rg Z d rx_m255 101 L (.int y :: .int x :: S) (rz_mk h ι, w) = if x < y then rg Z d rx_m255 104 L S (rz_mk h ι, w) else rg Z d rx_m255 107 L S (rz_mk h ι, w) := rz_if2 (pc := 101) (t := 107) (off := 6) (cc := .ge) (by decide) rfl
theorem g255_104 : rg Z d rx_m255 104 L S (rz_mk h ι, w) = rg Z d rx_m255 147 L S (rz_mk h ι, w) := rz_s1 fun _ => rfl
theorem g255_107 : rg Z d rx_m255 107 [some (.ref a), l1, l2, l3, l4] S (rz_mk h ι, w) = rg Z d rx_m255 108 [some (.ref a), l1, l2, l3, l4] (.ref a :: S) (rz_mk h ι, w) := rz_s1 fun _ => rfl
theorem g255_108 (c : rz_fR h a 12 40) : rg Z d rx_m255 108 L (.ref a :: S) (rz_mk h ι, w) = rg Z d rx_m255 111 L (rz_rv h a 40 :: S) (rz_mk h ι, w) := rz_gR rfl (by decide) c
theorem g255_111 : rg Z d rx_m255 111 [l0, l1, some (.int x), l3, l4] S (rz_mk h ι, w) = rg Z d rx_m255 112 [l0, l1, some (.int x), l3, l4] (.int x :: S) (rz_mk h ι, w) := rz_s1 fun _ => rfl
theorem g255_112 : rg Z d rx_m255 112 [l0, l1, l2, l3, some (.int x)] S (rz_mk h ι, w) = rg Z d rx_m255 114 [l0, l1, l2, l3, some (.int x)] (.int x :: S) (rz_mk h ι, w) := rz_s1 fun _ => rfl
theorem g255_114 (c : rz_ar h a 0) (hi : rz_ix x (rz_ln h a)) (hz : Z.2.1 ≤ a) : rg Z d rx_m255 114 L (.int y :: .int x :: .ref a :: S) (rz_mk h ι, w) = rg Z d rx_m255 115 L S (rz_mk h (rz_up ι a x.toNatClampNeg y), w) := rz_iast rfl c hi hz
theorem g255_115 : rg Z d rx_m255 115 [some (.ref a), l1, l2, l3, l4] S (rz_mk h ι, w) = rg Z d rx_m255 116 [some (.ref a), l1, l2, l3, l4] (.ref a :: S) (rz_mk h ι, w) := rz_s1 fun _ => rfl
theorem g255_116 : rg Z d rx_m255 116 [l0, some (.int x), l2, l3, l4] S (rz_mk h ι, w) = rg Z d rx_m255 117 [l0, some (.int x), l2, l3, l4] (.int x :: S) (rz_mk h ι, w) := rz_s1 fun _ => rfl
theorem g255_117 : rg Z d rx_m255 117 [l0, l1, some (.int x), l3, l4] S (rz_mk h ι, w) = rg Z d rx_m255 118 [l0, l1, some (.int x), l3, l4] (.int x :: S) (rz_mk h ι, w) := rz_s1 fun _ => rfl
theorem g255_118 : rg Z d rx_m255 118 L S (rz_mk h ι, w) = rg Z d rx_m255 119 L (.int 1 :: S) (rz_mk h ι, w) := rz_s1 fun _ => rfl
theorem g255_119 : rg Z d rx_m255 119 L (.int y :: .int x :: S) (rz_mk h ι, w) = rg Z d rx_m255 120 L (.int (x + y) :: S) (rz_mk h ι, w) := rz_s1 fun _ => rfl
theorem g255_120 : rg Z d rx_m255 120 [l0, l1, l2, some (.int x), l4] S (rz_mk h ι, w) = rg Z d rx_m255 121 [l0, l1, l2, some (.int x), l4] (.int x :: S) (rz_mk h ι, w) := rz_s1 fun _ => rfl
theorem g255_121 : rg Z d rx_m255 121 L S (rz_mk h ι, w) = rg Z d rx_m255 122 L (.int 1 :: S) (rz_mk h ι, w) := rz_s1 fun _ => rfl
theorem g255_122 : rg Z d rx_m255 122 [l0, l1, l2, l3, some (.int x)] S (rz_mk h ι, w) = rg Z d rx_m255 124 [l0, l1, l2, l3, some (.int x)] (.int x :: S) (rz_mk h ι, w) := rz_s1 fun _ => rfl
theorem g255_124 : rg Z d rx_m255 124 L (.int y :: .int x :: S) (rz_mk h ι, w) = rg Z d rx_m255 125 L (.int (x <<< (y &&& 31)) :: S) (rz_mk h ι, w) := rz_s1 fun _ => rfl
theorem g255_125 : rg Z d rx_m255 125 L (.int y :: .int x :: S) (rz_mk h ι, w) = rg Z d rx_m255 126 L (.int (x ||| y) :: S) (rz_mk h ι, w) := rz_s1 fun _ => rfl
theorem g255_126 (c : rz_oc h a 12) : rg Z d rx_m255 126 L (v3 :: v2 :: v1 :: .ref a :: []) (rz_mk h ι, w) = rz_k true (rz_f Z d 255 [.ref a, v1, v2, v3] (rz_mk h ι, w)) (fun v σ' => rg Z d rx_m255 129 L (v.toList ++ []) σ') := rz_cv (pc := 126) (n := 3) (mi := 255) (S := v3 :: v2 :: v1 :: .ref a :: []) (rest := []) rfl rfl (Nat.le_of_ble_eq_true rfl) (Nat.le_of_ble_eq_true rfl) c
theorem g255_129 : rg Z d rx_m255 129 [some (.ref a), l1, l2, l3, l4] S (rz_mk h ι, w) = rg Z d rx_m255 130 [some (.ref a), l1, l2, l3, l4] (.ref a :: S) (rz_mk h ι, w) := rz_s1 fun _ => rfl
theorem g255_130 (c : rz_fI h a 12 42) : rg Z d rx_m255 130 L (.ref a :: S) (rz_mk h ι, w) = rg Z d rx_m255 133 L (.int (ι a 42) :: S) (rz_mk h ι, w) := rz_gI rfl (by decide) c
theorem g255_133 : rg Z d rx_m255 133 [some (.ref a), l1, l2, l3, l4] S (rz_mk h ι, w) = rg Z d rx_m255 134 [some (.ref a), l1, l2, l3, l4] (.ref a :: S) (rz_mk h ι, w) := rz_s1 fun _ => rfl
theorem g255_134 (c : rz_fR h a 12 25) : rg Z d rx_m255 134 L (.ref a :: S) (rz_mk h ι, w) = rg Z d rx_m255 137 L (rz_rv h a 25 :: S) (rz_mk h ι, w) := rz_gR rfl (by decide) c
theorem g255_137 : rg Z d rx_m255 137 L S (rz_mk h ι, w) = rg Z d rx_m255 139 L (.int 56 :: S) (rz_mk h ι, w) := rz_s1 fun _ => rfl
theorem g255_139 (c : rz_ar h a 0) (hi : rz_ix x (rz_ln h a)) : rg Z d rx_m255 139 L (.int x :: .ref a :: S) (rz_mk h ι, w) = rg Z d rx_m255 140 L (.int (ι a x.toNatClampNeg) :: S) (rz_mk h ι, w) := rz_iald rfl c hi
theorem g255_140 : rg Z d rx_m255 140 L (v1 :: [.int s0]) (rz_mk h ι, w) = rz_k true (rz_f Z d 234 [v1] (rz_mk h ι, w)) (fun v σ' => rg Z d rx_m255 143 L (v.toList ++ [.int s0]) σ') := rz_cs (pc := 140) (n := 1) (mi := 234) (S := v1 :: [.int s0]) (rest := [.int s0]) rfl rfl (Nat.le_of_ble_eq_true rfl) (Nat.le_of_ble_eq_true rfl)
theorem g255_143 : rg Z d rx_m255 143 L (.int y :: .int x :: S) (rz_mk h ι, w) = if x = y then rg Z d rx_m255 146 L S (rz_mk h ι, w) else rg Z d rx_m255 147 L S (rz_mk h ι, w) := rz_if2 (pc := 143) (t := 147) (off := 4) (cc := .ne) (by decide) rfl
theorem g255_146 : rg Z d rx_m255 146 L [] (rz_mk h ι, w) = some (.inl none, (rz_mk h ι, w)) := rz_r1 fun _ => rfl
theorem g255_147 : rg Z d rx_m255 147 [l0, l1, l2, some (.int z), some (.int x)] S (rz_mk h ι, w) = rg Z d rx_m255 150 [l0, l1, l2, some (.int z), some (.int (x + 1))] S (rz_mk h ι, w) := rz_s1 fun _ => rfl
theorem g255_150 : rg Z d rx_m255 150 L S (rz_mk h ι, w) = rg Z d rx_m255 45 L S (rz_mk h ι, w) := rz_s1 fun _ => rfl
theorem g255_153 : rg Z d rx_m255 153 L [] (rz_mk h ι, w) = some (.inl none, (rz_mk h ι, w)) := rz_r1 fun _ => rfl
theorem e255 : rz_f Z (d + 1) 255 [.ref t0, .int s1, .int s2, .int s3] σ = rg Z d rx_m255 0 [some (.ref t0), some (.int s1), some (.int s2), some (.int s3), none] [] σ := rz_f_eq rfl (Nat.le_of_ble_eq_true rfl)
theorem g256_0 : rg Z d rx_m256 0 [some (.ref a), l1] S (rz_mk h ι, w) = rg Z d rx_m256 1 [some (.ref a), l1] (.ref a :: S) (rz_mk h ι, w) := rz_s1 fun _ => rfl
theorem g256_1 : rg Z d rx_m256 1 L S (rz_mk h ι, w) = rg Z d rx_m256 2 L (.int 0 :: S) (rz_mk h ι, w) := rz_s1 fun _ => rfl
theorem g256_2 (c : rz_fI h a 12 42) (hz : Z.2.1 ≤ a) : rg Z d rx_m256 2 L (.int x :: .ref a :: S) (rz_mk h ι, w) = rg Z d rx_m256 5 L S (rz_mk h (rz_up ι a 42 x), w) := rz_pI rfl c hz
theorem g256_5 : rg Z d rx_m256 5 [some (.ref a), l1] S (rz_mk h ι, w) = rg Z d rx_m256 6 [some (.ref a), l1] (.ref a :: S) (rz_mk h ι, w) := rz_s1 fun _ => rfl
theorem g256_6 : rg Z d rx_m256 6 [l0, some (.int x)] S (rz_mk h ι, w) = rg Z d rx_m256 7 [l0, some (.int x)] (.int x :: S) (rz_mk h ι, w) := rz_s1 fun _ => rfl
theorem g256_7 : rg Z d rx_m256 7 L S (rz_mk h ι, w) = rg Z d rx_m256 8 L (.int 0 :: S) (rz_mk h ι, w) := rz_s1 fun _ => rfl
theorem g256_8 : rg Z d rx_m256 8 L S (rz_mk h ι, w) = rg Z d rx_m256 9 L (.int 0 :: S) (rz_mk h ι, w) := rz_s1 fun _ => rfl
theorem g256_9 (c : rz_oc h a 12) : rg Z d rx_m256 9 L (v3 :: v2 :: v1 :: .ref a :: []) (rz_mk h ι, w) = rz_k true (rz_f Z d 255 [.ref a, v1, v2, v3] (rz_mk h ι, w)) (fun v σ' => rg Z d rx_m256 12 L (v.toList ++ []) σ') := rz_cv (pc := 9) (n := 3) (mi := 255) (S := v3 :: v2 :: v1 :: .ref a :: []) (rest := []) rfl rfl (Nat.le_of_ble_eq_true rfl) (Nat.le_of_ble_eq_true rfl) c
theorem g256_12 : rg Z d rx_m256 12 L [] (rz_mk h ι, w) = some (.inl none, (rz_mk h ι, w)) := rz_r1 fun _ => rfl
theorem e256 : rz_f Z (d + 1) 256 [.ref t0, .int s1] σ = rg Z d rx_m256 0 [some (.ref t0), some (.int s1)] [] σ := rz_f_eq rfl (Nat.le_of_ble_eq_true rfl)
theorem g257_0 : rg Z d rx_m257 0 [some (.ref a), l1] S (rz_mk h ι, w) = rg Z d rx_m257 1 [some (.ref a), l1] (.ref a :: S) (rz_mk h ι, w) := rz_s1 fun _ => rfl
theorem g257_1 : rg Z d rx_m257 1 L S (rz_mk h ι, w) = rg Z d rx_m257 2 L (.int 0 :: S) (rz_mk h ι, w) := rz_s1 fun _ => rfl
theorem g257_2 (c : rz_fI h a 12 0) (hz : Z.2.1 ≤ a) : rg Z d rx_m257 2 L (.int x :: .ref a :: S) (rz_mk h ι, w) = rg Z d rx_m257 5 L S (rz_mk h (rz_up ι a 0 x), w) := rz_pI rfl c hz
theorem g257_5 : rg Z d rx_m257 5 [some (.ref a), l1] S (rz_mk h ι, w) = rg Z d rx_m257 6 [some (.ref a), l1] (.ref a :: S) (rz_mk h ι, w) := rz_s1 fun _ => rfl
theorem g257_6 : rg Z d rx_m257 6 [l0, some (.int x)] S (rz_mk h ι, w) = rg Z d rx_m257 7 [l0, some (.int x)] (.int x :: S) (rz_mk h ι, w) := rz_s1 fun _ => rfl
theorem g257_7 : rg Z d rx_m257 7 L S (rz_mk h ι, w) = rg Z d rx_m257 8 L (.int 0 :: S) (rz_mk h ι, w) := rz_s1 fun _ => rfl
theorem g257_8 : rg Z d rx_m257 8 L S (rz_mk h ι, w) = rg Z d rx_m257 10 L (.int 99 :: S) (rz_mk h ι, w) := rz_s1 fun _ => rfl
theorem g257_10 : rg Z d rx_m257 10 L (v3 :: v2 :: v1 :: [.ref t0]) (rz_mk h ι, w) = rz_k true (rz_f Z d 175 [v1, v2, v3] (rz_mk h ι, w)) (fun v σ' => rg Z d rx_m257 13 L (v.toList ++ [.ref t0]) σ') := rz_cs (pc := 10) (n := 3) (mi := 175) (S := v3 :: v2 :: v1 :: [.ref t0]) (rest := [.ref t0]) rfl rfl (Nat.le_of_ble_eq_true rfl) (Nat.le_of_ble_eq_true rfl)
theorem g257_13 : rg Z d rx_m257 13 L (.int x :: S) (rz_mk h ι, w) = if x = 0 then rg Z d rx_m257 16 L S (rz_mk h ι, w) else rg Z d rx_m257 20 L S (rz_mk h ι, w) := rz_if1 (pc := 13) (t := 20) (off := 7) (cc := .ne) (by decide) rfl
theorem g257_16 : rg Z d rx_m257 16 L S (rz_mk h ι, w) = rg Z d rx_m257 17 L (.int 1 :: S) (rz_mk h ι, w) := rz_s1 fun _ => rfl
theorem g257_17 : rg Z d rx_m257 17 L S (rz_mk h ι, w) = rg Z d rx_m257 21 L S (rz_mk h ι, w) := rz_s1 fun _ => rfl
theorem g257_20 : rg Z d rx_m257 20 L S (rz_mk h ι, w) = rg Z d rx_m257 21 L (.int 0 :: S) (rz_mk h ι, w) := rz_s1 fun _ => rfl
theorem g257_21 : rg Z d rx_m257 21 L S (rz_mk h ι, w) = rg Z d rx_m257 22 L (.int 1 :: S) (rz_mk h ι, w) := rz_s1 fun _ => rfl
theorem g257_22 : rg Z d rx_m257 22 L S (rz_mk h ι, w) = rg Z d rx_m257 23 L (.int 1 :: S) (rz_mk h ι, w) := rz_s1 fun _ => rfl
theorem g257_23 (c : rz_oc h a 12) : rg Z d rx_m257 23 L (v3 :: v2 :: v1 :: .ref a :: []) (rz_mk h ι, w) = rz_k true (rz_f Z d 174 [.ref a, v1, v2, v3] (rz_mk h ι, w)) (fun v σ' => rg Z d rx_m257 26 L (v.toList ++ []) σ') := rz_cv (pc := 23) (n := 3) (mi := 174) (S := v3 :: v2 :: v1 :: .ref a :: []) (rest := []) rfl rfl (Nat.le_of_ble_eq_true rfl) (Nat.le_of_ble_eq_true rfl) c
theorem g257_26 : rg Z d rx_m257 26 L (.int x :: S) (rz_mk h ι, w) = if x = 0 then rg Z d rx_m257 31 L S (rz_mk h ι, w) else rg Z d rx_m257 29 L S (rz_mk h ι, w) := rz_if1 (pc := 26) (t := 31) (off := 5) (cc := .eq) (by decide) rfl
theorem g257_29 : rg Z d rx_m257 29 L S (rz_mk h ι, w) = rg Z d rx_m257 30 L (.int 0 :: S) (rz_mk h ι, w) := rz_s1 fun _ => rfl
theorem g257_30 : rg Z d rx_m257 30 L [.int x] (rz_mk h ι, w) = some (.inl (some (.int x)), (rz_mk h ι, w)) := rz_reti rfl rfl rfl
theorem g257_31 : rg Z d rx_m257 31 [some (.ref a), l1] S (rz_mk h ι, w) = rg Z d rx_m257 32 [some (.ref a), l1] (.ref a :: S) (rz_mk h ι, w) := rz_s1 fun _ => rfl
theorem g257_32 : rg Z d rx_m257 32 [l0, some (.int x)] S (rz_mk h ι, w) = rg Z d rx_m257 33 [l0, some (.int x)] (.int x :: S) (rz_mk h ι, w) := rz_s1 fun _ => rfl
theorem g257_33 (c : rz_oc h a 12) : rg Z d rx_m257 33 L (v1 :: .ref a :: []) (rz_mk h ι, w) = rz_k true (rz_f Z d 256 [.ref a, v1] (rz_mk h ι, w)) (fun v σ' => rg Z d rx_m257 36 L (v.toList ++ []) σ') := rz_cv (pc := 33) (n := 1) (mi := 256) (S := v1 :: .ref a :: []) (rest := []) rfl rfl (Nat.le_of_ble_eq_true rfl) (Nat.le_of_ble_eq_true rfl) c
theorem g257_36 : rg Z d rx_m257 36 [some (.ref a), l1] S (rz_mk h ι, w) = rg Z d rx_m257 37 [some (.ref a), l1] (.ref a :: S) (rz_mk h ι, w) := rz_s1 fun _ => rfl
theorem g257_37 (c : rz_fI h a 12 42) : rg Z d rx_m257 37 L (.ref a :: S) (rz_mk h ι, w) = rg Z d rx_m257 40 L (.int (ι a 42) :: S) (rz_mk h ι, w) := rz_gI rfl (by decide) c
theorem g257_40 : rg Z d rx_m257 40 L [.int x] (rz_mk h ι, w) = some (.inl (some (.int x)), (rz_mk h ι, w)) := rz_reti rfl rfl rfl
theorem e257 : rz_f Z (d + 1) 257 [.ref t0, .int s1] σ = rg Z d rx_m257 0 [some (.ref t0), some (.int s1)] [] σ := rz_f_eq rfl (Nat.le_of_ble_eq_true rfl)
theorem g258_0 : rg Z d rx_m258 0 [some (.ref a), l1, l2] S (rz_mk h ι, w) = rg Z d rx_m258 1 [some (.ref a), l1, l2] (.ref a :: S) (rz_mk h ι, w) := rz_s1 fun _ => rfl
theorem g258_1 : rg Z d rx_m258 1 L S (rz_mk h ι, w) = rg Z d rx_m258 2 L (.int 0 :: S) (rz_mk h ι, w) := rz_s1 fun _ => rfl
theorem g258_2 (c : rz_fI h a 12 0) (hz : Z.2.1 ≤ a) : rg Z d rx_m258 2 L (.int x :: .ref a :: S) (rz_mk h ι, w) = rg Z d rx_m258 5 L S (rz_mk h (rz_up ι a 0 x), w) := rz_pI rfl c hz
theorem g258_5 : rg Z d rx_m258 5 [some (.ref a), l1, l2] S (rz_mk h ι, w) = rg Z d rx_m258 6 [some (.ref a), l1, l2] (.ref a :: S) (rz_mk h ι, w) := rz_s1 fun _ => rfl
theorem g258_6 : rg Z d rx_m258 6 [l0, some (.int x), l2] S (rz_mk h ι, w) = rg Z d rx_m258 7 [l0, some (.int x), l2] (.int x :: S) (rz_mk h ι, w) := rz_s1 fun _ => rfl
theorem g258_7 : rg Z d rx_m258 7 L S (rz_mk h ι, w) = rg Z d rx_m258 8 L (.int 0 :: S) (rz_mk h ι, w) := rz_s1 fun _ => rfl
theorem g258_8 : rg Z d rx_m258 8 L S (rz_mk h ι, w) = rg Z d rx_m258 10 L (.int 99 :: S) (rz_mk h ι, w) := rz_s1 fun _ => rfl
theorem g258_10 : rg Z d rx_m258 10 L (v3 :: v2 :: v1 :: [.ref t0]) (rz_mk h ι, w) = rz_k true (rz_f Z d 175 [v1, v2, v3] (rz_mk h ι, w)) (fun v σ' => rg Z d rx_m258 13 L (v.toList ++ [.ref t0]) σ') := rz_cs (pc := 10) (n := 3) (mi := 175) (S := v3 :: v2 :: v1 :: [.ref t0]) (rest := [.ref t0]) rfl rfl (Nat.le_of_ble_eq_true rfl) (Nat.le_of_ble_eq_true rfl)
theorem g258_13 : rg Z d rx_m258 13 L (.int x :: S) (rz_mk h ι, w) = if x = 0 then rg Z d rx_m258 20 L S (rz_mk h ι, w) else rg Z d rx_m258 16 L S (rz_mk h ι, w) := rz_if1 (pc := 13) (t := 20) (off := 7) (cc := .eq) (by decide) rfl
theorem g258_16 : rg Z d rx_m258 16 [l0, l1, some (.int x)] S (rz_mk h ι, w) = rg Z d rx_m258 17 [l0, l1, some (.int x)] (.int x :: S) (rz_mk h ι, w) := rz_s1 fun _ => rfl
theorem g258_17 : rg Z d rx_m258 17 L (.int x :: S) (rz_mk h ι, w) = if x < 0 then rg Z d rx_m258 20 L S (rz_mk h ι, w) else rg Z d rx_m258 24 L S (rz_mk h ι, w) := rz_if1 (pc := 17) (t := 24) (off := 7) (cc := .ge) (by decide) rfl
theorem g258_20 : rg Z d rx_m258 20 L S (rz_mk h ι, w) = rg Z d rx_m258 21 L (.int 1 :: S) (rz_mk h ι, w) := rz_s1 fun _ => rfl
theorem g258_21 : rg Z d rx_m258 21 L S (rz_mk h ι, w) = rg Z d rx_m258 25 L S (rz_mk h ι, w) := rz_s1 fun _ => rfl
theorem g258_24 : rg Z d rx_m258 24 L S (rz_mk h ι, w) = rg Z d rx_m258 25 L (.int 0 :: S) (rz_mk h ι, w) := rz_s1 fun _ => rfl
theorem g258_25 : rg Z d rx_m258 25 L S (rz_mk h ι, w) = rg Z d rx_m258 26 L (.int 1 :: S) (rz_mk h ι, w) := rz_s1 fun _ => rfl
theorem g258_26 : rg Z d rx_m258 26 L S (rz_mk h ι, w) = rg Z d rx_m258 27 L (.int 1 :: S) (rz_mk h ι, w) := rz_s1 fun _ => rfl
theorem g258_27 (c : rz_oc h a 12) : rg Z d rx_m258 27 L (v3 :: v2 :: v1 :: .ref a :: []) (rz_mk h ι, w) = rz_k true (rz_f Z d 174 [.ref a, v1, v2, v3] (rz_mk h ι, w)) (fun v σ' => rg Z d rx_m258 30 L (v.toList ++ []) σ') := rz_cv (pc := 27) (n := 3) (mi := 174) (S := v3 :: v2 :: v1 :: .ref a :: []) (rest := []) rfl rfl (Nat.le_of_ble_eq_true rfl) (Nat.le_of_ble_eq_true rfl) c
theorem g258_30 : rg Z d rx_m258 30 L (.int x :: S) (rz_mk h ι, w) = if x = 0 then rg Z d rx_m258 35 L S (rz_mk h ι, w) else rg Z d rx_m258 33 L S (rz_mk h ι, w) := rz_if1 (pc := 30) (t := 35) (off := 5) (cc := .eq) (by decide) rfl
theorem g258_33 : rg Z d rx_m258 33 L S (rz_mk h ι, w) = rg Z d rx_m258 34 L (.int 0 :: S) (rz_mk h ι, w) := rz_s1 fun _ => rfl
theorem g258_34 : rg Z d rx_m258 34 L [.int x] (rz_mk h ι, w) = some (.inl (some (.int x)), (rz_mk h ι, w)) := rz_reti rfl rfl rfl
theorem g258_35 : rg Z d rx_m258 35 [some (.ref a), l1, l2] S (rz_mk h ι, w) = rg Z d rx_m258 36 [some (.ref a), l1, l2] (.ref a :: S) (rz_mk h ι, w) := rz_s1 fun _ => rfl
theorem g258_36 : rg Z d rx_m258 36 [l0, some (.int x), l2] S (rz_mk h ι, w) = rg Z d rx_m258 37 [l0, some (.int x), l2] (.int x :: S) (rz_mk h ι, w) := rz_s1 fun _ => rfl
theorem g258_37 (c : rz_oc h a 12) : rg Z d rx_m258 37 L (v1 :: .ref a :: []) (rz_mk h ι, w) = rz_k true (rz_f Z d 256 [.ref a, v1] (rz_mk h ι, w)) (fun v σ' => rg Z d rx_m258 40 L (v.toList ++ []) σ') := rz_cv (pc := 37) (n := 1) (mi := 256) (S := v1 :: .ref a :: []) (rest := []) rfl rfl (Nat.le_of_ble_eq_true rfl) (Nat.le_of_ble_eq_true rfl) c
theorem g258_40 : rg Z d rx_m258 40 [l0, l1, some (.int x)] S (rz_mk h ι, w) = rg Z d rx_m258 41 [l0, l1, some (.int x)] (.int x :: S) (rz_mk h ι, w) := rz_s1 fun _ => rfl
theorem g258_41 : rg Z d rx_m258 41 [some (.ref a), l1, l2] S (rz_mk h ι, w) = rg Z d rx_m258 42 [some (.ref a), l1, l2] (.ref a :: S) (rz_mk h ι, w) := rz_s1 fun _ => rfl
theorem g258_42 (c : rz_fI h a 12 42) : rg Z d rx_m258 42 L (.ref a :: S) (rz_mk h ι, w) = rg Z d rx_m258 45 L (.int (ι a 42) :: S) (rz_mk h ι, w) := rz_gI rfl (by decide) c
theorem g258_45 : rg Z d rx_m258 45 L (.int y :: .int x :: S) (rz_mk h ι, w) = if x < y then rg Z d rx_m258 48 L S (rz_mk h ι, w) else rg Z d rx_m258 57 L S (rz_mk h ι, w) := rz_if2 (pc := 45) (t := 57) (off := 12) (cc := .ge) (by decide) rfl
theorem g258_48 : rg Z d rx_m258 48 [some (.ref a), l1, l2] S (rz_mk h ι, w) = rg Z d rx_m258 49 [some (.ref a), l1, l2] (.ref a :: S) (rz_mk h ι, w) := rz_s1 fun _ => rfl
theorem g258_49 (c : rz_fR h a 12 41) : rg Z d rx_m258 49 L (.ref a :: S) (rz_mk h ι, w) = rg Z d rx_m258 52 L (rz_rv h a 41 :: S) (rz_mk h ι, w) := rz_gR rfl (by decide) c
theorem g258_52 : rg Z d rx_m258 52 [l0, l1, some (.int x)] S (rz_mk h ι, w) = rg Z d rx_m258 53 [l0, l1, some (.int x)] (.int x :: S) (rz_mk h ι, w) := rz_s1 fun _ => rfl
theorem g258_53 (c : rz_ar h a 0) (hi : rz_ix x (rz_ln h a)) : rg Z d rx_m258 53 L (.int x :: .ref a :: S) (rz_mk h ι, w) = rg Z d rx_m258 54 L (.int (ι a x.toNatClampNeg) :: S) (rz_mk h ι, w) := rz_iald rfl c hi
theorem g258_54 : rg Z d rx_m258 54 L S (rz_mk h ι, w) = rg Z d rx_m258 58 L S (rz_mk h ι, w) := rz_s1 fun _ => rfl
theorem g258_57 : rg Z d rx_m258 57 L S (rz_mk h ι, w) = rg Z d rx_m258 58 L (.int (-1) :: S) (rz_mk h ι, w) := rz_s1 fun _ => rfl
theorem g258_58 : rg Z d rx_m258 58 L [.int x] (rz_mk h ι, w) = some (.inl (some (.int x)), (rz_mk h ι, w)) := rz_reti rfl rfl rfl
theorem e258 : rz_f Z (d + 1) 258 [.ref t0, .int s1, .int s2] σ = rg Z d rx_m258 0 [some (.ref t0), some (.int s1), some (.int s2)] [] σ := rz_f_eq rfl (Nat.le_of_ble_eq_true rfl)
theorem g259_0 : rg Z d rx_m259 0 [some (.ref a), l1, l2, l3, l4, l5, l6, l7, l8, l9, l10] S (rz_mk h ι, w) = rg Z d rx_m259 1 [some (.ref a), l1, l2, l3, l4, l5, l6, l7, l8, l9, l10] (.ref a :: S) (rz_mk h ι, w) := rz_s1 fun _ => rfl
theorem g259_1 : rg Z d rx_m259 1 L S (rz_mk h ι, w) = rg Z d rx_m259 2 L (.int 0 :: S) (rz_mk h ι, w) := rz_s1 fun _ => rfl
theorem g259_2 (c : rz_fI h a 12 0) (hz : Z.2.1 ≤ a) : rg Z d rx_m259 2 L (.int x :: .ref a :: S) (rz_mk h ι, w) = rg Z d rx_m259 5 L S (rz_mk h (rz_up ι a 0 x), w) := rz_pI rfl c hz
theorem g259_5 : rg Z d rx_m259 5 [some (.ref a), l1, l2, l3, l4, l5, l6, l7, l8, l9, l10] S (rz_mk h ι, w) = rg Z d rx_m259 6 [some (.ref a), l1, l2, l3, l4, l5, l6, l7, l8, l9, l10] (.ref a :: S) (rz_mk h ι, w) := rz_s1 fun _ => rfl
theorem g259_6 : rg Z d rx_m259 6 [l0, some (.int x), l2, l3, l4, l5, l6, l7, l8, l9, l10] S (rz_mk h ι, w) = rg Z d rx_m259 7 [l0, some (.int x), l2, l3, l4, l5, l6, l7, l8, l9, l10] (.int x :: S) (rz_mk h ι, w) := rz_s1 fun _ => rfl
theorem g259_7 : rg Z d rx_m259 7 L S (rz_mk h ι, w) = rg Z d rx_m259 8 L (.int 0 :: S) (rz_mk h ι, w) := rz_s1 fun _ => rfl
theorem g259_8 : rg Z d rx_m259 8 L S (rz_mk h ι, w) = rg Z d rx_m259 9 L (.int 1 :: S) (rz_mk h ι, w) := rz_s1 fun _ => rfl
theorem g259_9 : rg Z d rx_m259 9 L (v3 :: v2 :: v1 :: [.ref t0]) (rz_mk h ι, w) = rz_k true (rz_f Z d 175 [v1, v2, v3] (rz_mk h ι, w)) (fun v σ' => rg Z d rx_m259 12 L (v.toList ++ [.ref t0]) σ') := rz_cs (pc := 9) (n := 3) (mi := 175) (S := v3 :: v2 :: v1 :: [.ref t0]) (rest := [.ref t0]) rfl rfl (Nat.le_of_ble_eq_true rfl) (Nat.le_of_ble_eq_true rfl)
theorem g259_12 : rg Z d rx_m259 12 L (.int x :: S) (rz_mk h ι, w) = if x = 0 then rg Z d rx_m259 15 L S (rz_mk h ι, w) else rg Z d rx_m259 19 L S (rz_mk h ι, w) := rz_if1 (pc := 12) (t := 19) (off := 7) (cc := .ne) (by decide) rfl
theorem g259_15 : rg Z d rx_m259 15 L S (rz_mk h ι, w) = rg Z d rx_m259 16 L (.int 1 :: S) (rz_mk h ι, w) := rz_s1 fun _ => rfl
theorem g259_16 : rg Z d rx_m259 16 L S (rz_mk h ι, w) = rg Z d rx_m259 20 L S (rz_mk h ι, w) := rz_s1 fun _ => rfl
theorem g259_19 : rg Z d rx_m259 19 L S (rz_mk h ι, w) = rg Z d rx_m259 20 L (.int 0 :: S) (rz_mk h ι, w) := rz_s1 fun _ => rfl
theorem g259_20 : rg Z d rx_m259 20 L S (rz_mk h ι, w) = rg Z d rx_m259 21 L (.int 1 :: S) (rz_mk h ι, w) := rz_s1 fun _ => rfl
theorem g259_21 : rg Z d rx_m259 21 L S (rz_mk h ι, w) = rg Z d rx_m259 22 L (.int 1 :: S) (rz_mk h ι, w) := rz_s1 fun _ => rfl
theorem g259_22 (c : rz_oc h a 12) : rg Z d rx_m259 22 L (v3 :: v2 :: v1 :: .ref a :: []) (rz_mk h ι, w) = rz_k true (rz_f Z d 174 [.ref a, v1, v2, v3] (rz_mk h ι, w)) (fun v σ' => rg Z d rx_m259 25 L (v.toList ++ []) σ') := rz_cv (pc := 22) (n := 3) (mi := 174) (S := v3 :: v2 :: v1 :: .ref a :: []) (rest := []) rfl rfl (Nat.le_of_ble_eq_true rfl) (Nat.le_of_ble_eq_true rfl) c
theorem g259_25 : rg Z d rx_m259 25 L (.int x :: S) (rz_mk h ι, w) = if x = 0 then rg Z d rx_m259 30 L S (rz_mk h ι, w) else rg Z d rx_m259 28 L S (rz_mk h ι, w) := rz_if1 (pc := 25) (t := 30) (off := 5) (cc := .eq) (by decide) rfl
theorem g259_28 : rg Z d rx_m259 28 L S (rz_mk h ι, w) = rg Z d rx_m259 29 L (.int 0 :: S) (rz_mk h ι, w) := rz_s1 fun _ => rfl
theorem g259_29 : rg Z d rx_m259 29 L [.int x] (rz_mk h ι, w) = some (.inl (some (.int x)), (rz_mk h ι, w)) := rz_reti rfl rfl rfl
theorem g259_30 : rg Z d rx_m259 30 L S (rz_mk h ι, w) = rg Z d rx_m259 31 L (.int (-1) :: S) (rz_mk h ι, w) := rz_s1 fun _ => rfl
theorem g259_31 : rg Z d rx_m259 31 [l0, some (.int z), l2, l3, l4, l5, l6, l7, l8, l9, l10] (.int x :: S) (rz_mk h ι, w) = rg Z d rx_m259 32 [l0, some (.int z), some (.int x), l3, l4, l5, l6, l7, l8, l9, l10] S (rz_mk h ι, w) := rz_s1 fun _ => rfl
theorem g259_32 : rg Z d rx_m259 32 L S (rz_mk h ι, w) = rg Z d rx_m259 33 L (.int (-1) :: S) (rz_mk h ι, w) := rz_s1 fun _ => rfl
theorem g259_33 : rg Z d rx_m259 33 [l0, l1, some (.int z), l3, l4, l5, l6, l7, l8, l9, l10] (.int x :: S) (rz_mk h ι, w) = rg Z d rx_m259 34 [l0, l1, some (.int z), some (.int x), l4, l5, l6, l7, l8, l9, l10] S (rz_mk h ι, w) := rz_s1 fun _ => rfl
theorem g259_34 : rg Z d rx_m259 34 [some (.ref a), l1, l2, l3, l4, l5, l6, l7, l8, l9, l10] S (rz_mk h ι, w) = rg Z d rx_m259 35 [some (.ref a), l1, l2, l3, l4, l5, l6, l7, l8, l9, l10] (.ref a :: S) (rz_mk h ι, w) := rz_s1 fun _ => rfl
theorem g259_35 (c : rz_fR h a 12 25) : rg Z d rx_m259 35 L (.ref a :: S) (rz_mk h ι, w) = rg Z d rx_m259 38 L (rz_rv h a 25 :: S) (rz_mk h ι, w) := rz_gR rfl (by decide) c
theorem g259_38 : rg Z d rx_m259 38 L S (rz_mk h ι, w) = rg Z d rx_m259 40 L (.int 58 :: S) (rz_mk h ι, w) := rz_s1 fun _ => rfl
theorem g259_40 (c : rz_ar h a 0) (hi : rz_ix x (rz_ln h a)) : rg Z d rx_m259 40 L (.int x :: .ref a :: S) (rz_mk h ι, w) = rg Z d rx_m259 41 L (.int (ι a x.toNatClampNeg) :: S) (rz_mk h ι, w) := rz_iald rfl c hi
theorem g259_41 : rg Z d rx_m259 41 [l0, l1, l2, some (.int z), l4, l5, l6, l7, l8, l9, l10] (.int x :: S) (rz_mk h ι, w) = rg Z d rx_m259 43 [l0, l1, l2, some (.int z), some (.int x), l5, l6, l7, l8, l9, l10] S (rz_mk h ι, w) := rz_s1 fun _ => rfl
theorem g259_43 : rg Z d rx_m259 43 L S (rz_mk h ι, w) = rg Z d rx_m259 44 L (.int 0 :: S) (rz_mk h ι, w) := rz_s1 fun _ => rfl
theorem g259_44 : rg Z d rx_m259 44 [l0, l1, l2, l3, some (.int z), l5, l6, l7, l8, l9, l10] (.int x :: S) (rz_mk h ι, w) = rg Z d rx_m259 46 [l0, l1, l2, l3, some (.int z), some (.int x), l6, l7, l8, l9, l10] S (rz_mk h ι, w) := rz_s1 fun _ => rfl
theorem g259_46 : rg Z d rx_m259 46 [l0, l1, l2, l3, l4, some (.int x), l6, l7, l8, l9, l10] S (rz_mk h ι, w) = rg Z d rx_m259 48 [l0, l1, l2, l3, l4, some (.int x), l6, l7, l8, l9, l10] (.int x :: S) (rz_mk h ι, w) := rz_s1 fun _ => rfl
theorem g259_48 : rg Z d rx_m259 48 [some (.ref a), l1, l2, l3, l4, l5, l6, l7, l8, l9, l10] S (rz_mk h ι, w) = rg Z d rx_m259 49 [some (.ref a), l1, l2, l3, l4, l5, l6, l7, l8, l9, l10] (.ref a :: S) (rz_mk h ι, w) := rz_s1 fun _ => rfl
theorem g259_49 (c : rz_fR h a 12 25) : rg Z d rx_m259 49 L (.ref a :: S) (rz_mk h ι, w) = rg Z d rx_m259 52 L (rz_rv h a 25 :: S) (rz_mk h ι, w) := rz_gR rfl (by decide) c
theorem g259_52 : rg Z d rx_m259 52 L S (rz_mk h ι, w) = rg Z d rx_m259 54 L (.int 57 :: S) (rz_mk h ι, w) := rz_s1 fun _ => rfl
theorem g259_54 (c : rz_ar h a 0) (hi : rz_ix x (rz_ln h a)) : rg Z d rx_m259 54 L (.int x :: .ref a :: S) (rz_mk h ι, w) = rg Z d rx_m259 55 L (.int (ι a x.toNatClampNeg) :: S) (rz_mk h ι, w) := rz_iald rfl c hi
theorem g259_55 : rg Z d rx_m259 55 L (.int y :: .int x :: S) (rz_mk h ι, w) = if x < y then rg Z d rx_m259 58 L S (rz_mk h ι, w) else rg Z d rx_m259 272 L S (rz_mk h ι, w) := rz_if2 (pc := 55) (t := 272) (off := 217) (cc := .ge) (by decide) rfl
theorem g259_58 : rg Z d rx_m259 58 [l0, l1, l2, l3, some (.int x), l5, l6, l7, l8, l9, l10] S (rz_mk h ι, w) = rg Z d rx_m259 60 [l0, l1, l2, l3, some (.int x), l5, l6, l7, l8, l9, l10] (.int x :: S) (rz_mk h ι, w) := rz_s1 fun _ => rfl
theorem g259_60 : rg Z d rx_m259 60 L S (rz_mk h ι, w) = rg Z d rx_m259 61 L (.int (-1) :: S) (rz_mk h ι, w) := rz_s1 fun _ => rfl
theorem g259_61 : rg Z d rx_m259 61 L (.int y :: .int x :: S) (rz_mk h ι, w) = if x = y then rg Z d rx_m259 272 L S (rz_mk h ι, w) else rg Z d rx_m259 64 L S (rz_mk h ι, w) := rz_if2 (pc := 61) (t := 272) (off := 211) (cc := .eq) (by decide) rfl
theorem g259_64 : rg Z d rx_m259 64 [l0, l1, l2, l3, l4, some (.int x), l6, l7, l8, l9, l10] S (rz_mk h ι, w) = rg Z d rx_m259 66 [l0, l1, l2, l3, l4, some (.int x), l6, l7, l8, l9, l10] (.int x :: S) (rz_mk h ι, w) := rz_s1 fun _ => rfl
theorem g259_66 : rg Z d rx_m259 66 L S (rz_mk h ι, w) = rg Z d rx_m259 67 L (.int 1 :: S) (rz_mk h ι, w) := rz_s1 fun _ => rfl
theorem g259_67 : rg Z d rx_m259 67 L (.int y :: .int x :: S) (rz_mk h ι, w) = rg Z d rx_m259 68 L (.int (x + y) :: S) (rz_mk h ι, w) := rz_s1 fun _ => rfl
theorem g259_68 : rg Z d rx_m259 68 [l0, l1, l2, l3, l4, some (.int z), l6, l7, l8, l9, l10] (.int x :: S) (rz_mk h ι, w) = rg Z d rx_m259 70 [l0, l1, l2, l3, l4, some (.int z), some (.int x), l7, l8, l9, l10] S (rz_mk h ι, w) := rz_s1 fun _ => rfl
theorem g259_70 : rg Z d rx_m259 70 [l0, l1, l2, l3, l4, l5, some (.int x), l7, l8, l9, l10] S (rz_mk h ι, w) = rg Z d rx_m259 72 [l0, l1, l2, l3, l4, l5, some (.int x), l7, l8, l9, l10] (.int x :: S) (rz_mk h ι, w) := rz_s1 fun _ => rfl
theorem g259_72 : rg Z d rx_m259 72 [some (.ref a), l1, l2, l3, l4, l5, l6, l7, l8, l9, l10] S (rz_mk h ι, w) = rg Z d rx_m259 73 [some (.ref a), l1, l2, l3, l4, l5, l6, l7, l8, l9, l10] (.ref a :: S) (rz_mk h ι, w) := rz_s1 fun _ => rfl
theorem g259_73 (c : rz_fR h a 12 25) : rg Z d rx_m259 73 L (.ref a :: S) (rz_mk h ι, w) = rg Z d rx_m259 76 L (rz_rv h a 25 :: S) (rz_mk h ι, w) := rz_gR rfl (by decide) c
theorem g259_76 : rg Z d rx_m259 76 L S (rz_mk h ι, w) = rg Z d rx_m259 78 L (.int 57 :: S) (rz_mk h ι, w) := rz_s1 fun _ => rfl
theorem g259_78 (c : rz_ar h a 0) (hi : rz_ix x (rz_ln h a)) : rg Z d rx_m259 78 L (.int x :: .ref a :: S) (rz_mk h ι, w) = rg Z d rx_m259 79 L (.int (ι a x.toNatClampNeg) :: S) (rz_mk h ι, w) := rz_iald rfl c hi
theorem g259_79 : rg Z d rx_m259 79 L (.int y :: .int x :: S) (rz_mk h ι, w) = if x < y then rg Z d rx_m259 82 L S (rz_mk h ι, w) else rg Z d rx_m259 266 L S (rz_mk h ι, w) := rz_if2 (pc := 79) (t := 266) (off := 187) (cc := .ge) (by decide) rfl
theorem g259_82 : rg Z d rx_m259 82 [some (.ref a), l1, l2, l3, l4, l5, l6, l7, l8, l9, l10] S (rz_mk h ι, w) = rg Z d rx_m259 83 [some (.ref a), l1, l2, l3, l4, l5, l6, l7, l8, l9, l10] (.ref a :: S) (rz_mk h ι, w) := rz_s1 fun _ => rfl
theorem g259_83 (c : rz_fR h a 12 25) : rg Z d rx_m259 83 L (.ref a :: S) (rz_mk h ι, w) = rg Z d rx_m259 86 L (rz_rv h a 25 :: S) (rz_mk h ι, w) := rz_gR rfl (by decide) c
theorem g259_86 : rg Z d rx_m259 86 [l0, l1, l2, l3, l4, some (.int x), l6, l7, l8, l9, l10] S (rz_mk h ι, w) = rg Z d rx_m259 88 [l0, l1, l2, l3, l4, some (.int x), l6, l7, l8, l9, l10] (.int x :: S) (rz_mk h ι, w) := rz_s1 fun _ => rfl
theorem g259_88 : rg Z d rx_m259 88 L (v2 :: v1 :: []) (rz_mk h ι, w) = rz_k true (rz_f Z d 222 [v1, v2] (rz_mk h ι, w)) (fun v σ' => rg Z d rx_m259 91 L (v.toList ++ []) σ') := rz_cs (pc := 88) (n := 2) (mi := 222) (S := v2 :: v1 :: []) (rest := []) rfl rfl (Nat.le_of_ble_eq_true rfl) (Nat.le_of_ble_eq_true rfl)
theorem g259_91 : rg Z d rx_m259 91 L (.int x :: S) (rz_mk h ι, w) = if x = 0 then rg Z d rx_m259 260 L S (rz_mk h ι, w) else rg Z d rx_m259 94 L S (rz_mk h ι, w) := rz_if1 (pc := 91) (t := 260) (off := 169) (cc := .eq) (by decide) rfl
theorem g259_94 : rg Z d rx_m259 94 [some (.ref a), l1, l2, l3, l4, l5, l6, l7, l8, l9, l10] S (rz_mk h ι, w) = rg Z d rx_m259 95 [some (.ref a), l1, l2, l3, l4, l5, l6, l7, l8, l9, l10] (.ref a :: S) (rz_mk h ι, w) := rz_s1 fun _ => rfl
theorem g259_95 (c : rz_fR h a 12 25) : rg Z d rx_m259 95 L (.ref a :: S) (rz_mk h ι, w) = rg Z d rx_m259 98 L (rz_rv h a 25 :: S) (rz_mk h ι, w) := rz_gR rfl (by decide) c
theorem g259_98 : rg Z d rx_m259 98 [l0, l1, l2, l3, l4, l5, some (.int x), l7, l8, l9, l10] S (rz_mk h ι, w) = rg Z d rx_m259 100 [l0, l1, l2, l3, l4, l5, some (.int x), l7, l8, l9, l10] (.int x :: S) (rz_mk h ι, w) := rz_s1 fun _ => rfl
theorem g259_100 : rg Z d rx_m259 100 L (v2 :: v1 :: []) (rz_mk h ι, w) = rz_k true (rz_f Z d 222 [v1, v2] (rz_mk h ι, w)) (fun v σ' => rg Z d rx_m259 103 L (v.toList ++ []) σ') := rz_cs (pc := 100) (n := 2) (mi := 222) (S := v2 :: v1 :: []) (rest := []) rfl rfl (Nat.le_of_ble_eq_true rfl) (Nat.le_of_ble_eq_true rfl)
theorem g259_103 : rg Z d rx_m259 103 L (.int x :: S) (rz_mk h ι, w) = if x = 0 then rg Z d rx_m259 106 L S (rz_mk h ι, w) else rg Z d rx_m259 109 L S (rz_mk h ι, w) := rz_if1 (pc := 103) (t := 109) (off := 6) (cc := .ne) (by decide) rfl
theorem g259_106 : rg Z d rx_m259 106 L S (rz_mk h ι, w) = rg Z d rx_m259 260 L S (rz_mk h ι, w) := rz_s1 fun _ => rfl
theorem g259_109 : rg Z d rx_m259 109 [some (.ref a), l1, l2, l3, l4, l5, l6, l7, l8, l9, l10] S (rz_mk h ι, w) = rg Z d rx_m259 110 [some (.ref a), l1, l2, l3, l4, l5, l6, l7, l8, l9, l10] (.ref a :: S) (rz_mk h ι, w) := rz_s1 fun _ => rfl
theorem g259_110 (c : rz_fR h a 12 25) : rg Z d rx_m259 110 L (.ref a :: S) (rz_mk h ι, w) = rg Z d rx_m259 113 L (rz_rv h a 25 :: S) (rz_mk h ι, w) := rz_gR rfl (by decide) c
theorem g259_113 : rg Z d rx_m259 113 [l0, l1, l2, l3, l4, some (.int x), l6, l7, l8, l9, l10] S (rz_mk h ι, w) = rg Z d rx_m259 115 [l0, l1, l2, l3, l4, some (.int x), l6, l7, l8, l9, l10] (.int x :: S) (rz_mk h ι, w) := rz_s1 fun _ => rfl
theorem g259_115 : rg Z d rx_m259 115 L S (rz_mk h ι, w) = rg Z d rx_m259 116 L (.int 0 :: S) (rz_mk h ι, w) := rz_s1 fun _ => rfl
theorem g259_116 : rg Z d rx_m259 116 L (v3 :: v2 :: v1 :: []) (rz_mk h ι, w) = rz_k true (rz_f Z d 218 [v1, v2, v3] (rz_mk h ι, w)) (fun v σ' => rg Z d rx_m259 119 L (v.toList ++ []) σ') := rz_cs (pc := 116) (n := 3) (mi := 218) (S := v3 :: v2 :: v1 :: []) (rest := []) rfl rfl (Nat.le_of_ble_eq_true rfl) (Nat.le_of_ble_eq_true rfl)
theorem g259_119 : rg Z d rx_m259 119 [some (.ref a), l1, l2, l3, l4, l5, l6, l7, l8, l9, l10] S (rz_mk h ι, w) = rg Z d rx_m259 120 [some (.ref a), l1, l2, l3, l4, l5, l6, l7, l8, l9, l10] (.ref a :: S) (rz_mk h ι, w) := rz_s1 fun _ => rfl
theorem g259_120 (c : rz_fR h a 12 25) : rg Z d rx_m259 120 L (.ref a :: S) (rz_mk h ι, w) = rg Z d rx_m259 123 L (rz_rv h a 25 :: S) (rz_mk h ι, w) := rz_gR rfl (by decide) c
theorem g259_123 : rg Z d rx_m259 123 [l0, l1, l2, l3, l4, l5, some (.int x), l7, l8, l9, l10] S (rz_mk h ι, w) = rg Z d rx_m259 125 [l0, l1, l2, l3, l4, l5, some (.int x), l7, l8, l9, l10] (.int x :: S) (rz_mk h ι, w) := rz_s1 fun _ => rfl
theorem g259_125 : rg Z d rx_m259 125 L S (rz_mk h ι, w) = rg Z d rx_m259 126 L (.int 0 :: S) (rz_mk h ι, w) := rz_s1 fun _ => rfl
theorem g259_126 : rg Z d rx_m259 126 L (v3 :: v2 :: v1 :: [.int s0]) (rz_mk h ι, w) = rz_k true (rz_f Z d 218 [v1, v2, v3] (rz_mk h ι, w)) (fun v σ' => rg Z d rx_m259 129 L (v.toList ++ [.int s0]) σ') := rz_cs (pc := 126) (n := 3) (mi := 218) (S := v3 :: v2 :: v1 :: [.int s0]) (rest := [.int s0]) rfl rfl (Nat.le_of_ble_eq_true rfl) (Nat.le_of_ble_eq_true rfl)
theorem g259_129 : rg Z d rx_m259 129 L (.int y :: .int x :: S) (rz_mk h ι, w) = rg Z d rx_m259 130 L (.int (x + y) :: S) (rz_mk h ι, w) := rz_s1 fun _ => rfl
theorem g259_130 : rg Z d rx_m259 130 L S (rz_mk h ι, w) = rg Z d rx_m259 131 L (.int 2 :: S) (rz_mk h ι, w) := rz_s1 fun _ => rfl
theorem g259_131 : rg Z d rx_m259 131 L (.int 2 :: .int x :: S) (rz_mk h ι, w) = rg Z d rx_m259 132 L (.int (x / 2) :: S) (rz_mk h ι, w) := rz_div rfl (by decide)
theorem g259_132 : rg Z d rx_m259 132 [l0, l1, l2, l3, l4, l5, some (.int z), l7, l8, l9, l10] (.int x :: S) (rz_mk h ι, w) = rg Z d rx_m259 134 [l0, l1, l2, l3, l4, l5, some (.int z), some (.int x), l8, l9, l10] S (rz_mk h ι, w) := rz_s1 fun _ => rfl
theorem g259_134 : rg Z d rx_m259 134 [some (.ref a), l1, l2, l3, l4, l5, l6, l7, l8, l9, l10] S (rz_mk h ι, w) = rg Z d rx_m259 135 [some (.ref a), l1, l2, l3, l4, l5, l6, l7, l8, l9, l10] (.ref a :: S) (rz_mk h ι, w) := rz_s1 fun _ => rfl
theorem g259_135 (c : rz_fR h a 12 25) : rg Z d rx_m259 135 L (.ref a :: S) (rz_mk h ι, w) = rg Z d rx_m259 138 L (rz_rv h a 25 :: S) (rz_mk h ι, w) := rz_gR rfl (by decide) c
theorem g259_138 : rg Z d rx_m259 138 [l0, l1, l2, l3, l4, some (.int x), l6, l7, l8, l9, l10] S (rz_mk h ι, w) = rg Z d rx_m259 140 [l0, l1, l2, l3, l4, some (.int x), l6, l7, l8, l9, l10] (.int x :: S) (rz_mk h ι, w) := rz_s1 fun _ => rfl
theorem g259_140 : rg Z d rx_m259 140 L S (rz_mk h ι, w) = rg Z d rx_m259 141 L (.int 1 :: S) (rz_mk h ι, w) := rz_s1 fun _ => rfl
theorem g259_141 : rg Z d rx_m259 141 L (v3 :: v2 :: v1 :: []) (rz_mk h ι, w) = rz_k true (rz_f Z d 218 [v1, v2, v3] (rz_mk h ι, w)) (fun v σ' => rg Z d rx_m259 144 L (v.toList ++ []) σ') := rz_cs (pc := 141) (n := 3) (mi := 218) (S := v3 :: v2 :: v1 :: []) (rest := []) rfl rfl (Nat.le_of_ble_eq_true rfl) (Nat.le_of_ble_eq_true rfl)
theorem g259_144 : rg Z d rx_m259 144 [some (.ref a), l1, l2, l3, l4, l5, l6, l7, l8, l9, l10] S (rz_mk h ι, w) = rg Z d rx_m259 145 [some (.ref a), l1, l2, l3, l4, l5, l6, l7, l8, l9, l10] (.ref a :: S) (rz_mk h ι, w) := rz_s1 fun _ => rfl
theorem g259_145 (c : rz_fR h a 12 25) : rg Z d rx_m259 145 L (.ref a :: S) (rz_mk h ι, w) = rg Z d rx_m259 148 L (rz_rv h a 25 :: S) (rz_mk h ι, w) := rz_gR rfl (by decide) c
theorem g259_148 : rg Z d rx_m259 148 [l0, l1, l2, l3, l4, l5, some (.int x), l7, l8, l9, l10] S (rz_mk h ι, w) = rg Z d rx_m259 150 [l0, l1, l2, l3, l4, l5, some (.int x), l7, l8, l9, l10] (.int x :: S) (rz_mk h ι, w) := rz_s1 fun _ => rfl
theorem g259_150 : rg Z d rx_m259 150 L S (rz_mk h ι, w) = rg Z d rx_m259 151 L (.int 1 :: S) (rz_mk h ι, w) := rz_s1 fun _ => rfl
theorem g259_151 : rg Z d rx_m259 151 L (v3 :: v2 :: v1 :: [.int s0]) (rz_mk h ι, w) = rz_k true (rz_f Z d 218 [v1, v2, v3] (rz_mk h ι, w)) (fun v σ' => rg Z d rx_m259 154 L (v.toList ++ [.int s0]) σ') := rz_cs (pc := 151) (n := 3) (mi := 218) (S := v3 :: v2 :: v1 :: [.int s0]) (rest := [.int s0]) rfl rfl (Nat.le_of_ble_eq_true rfl) (Nat.le_of_ble_eq_true rfl)
theorem g259_154 : rg Z d rx_m259 154 L (.int y :: .int x :: S) (rz_mk h ι, w) = rg Z d rx_m259 155 L (.int (x + y) :: S) (rz_mk h ι, w) := rz_s1 fun _ => rfl
theorem g259_155 : rg Z d rx_m259 155 L S (rz_mk h ι, w) = rg Z d rx_m259 156 L (.int 2 :: S) (rz_mk h ι, w) := rz_s1 fun _ => rfl
theorem g259_156 : rg Z d rx_m259 156 L (.int 2 :: .int x :: S) (rz_mk h ι, w) = rg Z d rx_m259 157 L (.int (x / 2) :: S) (rz_mk h ι, w) := rz_div rfl (by decide)
theorem g259_157 : rg Z d rx_m259 157 [l0, l1, l2, l3, l4, l5, l6, some (.int z), l8, l9, l10] (.int x :: S) (rz_mk h ι, w) = rg Z d rx_m259 159 [l0, l1, l2, l3, l4, l5, l6, some (.int z), some (.int x), l9, l10] S (rz_mk h ι, w) := rz_s1 fun _ => rfl
theorem g259_159 : rg Z d rx_m259 159 [some (.ref a), l1, l2, l3, l4, l5, l6, l7, l8, l9, l10] S (rz_mk h ι, w) = rg Z d rx_m259 160 [some (.ref a), l1, l2, l3, l4, l5, l6, l7, l8, l9, l10] (.ref a :: S) (rz_mk h ι, w) := rz_s1 fun _ => rfl
theorem g259_160 (c : rz_fR h a 12 25) : rg Z d rx_m259 160 L (.ref a :: S) (rz_mk h ι, w) = rg Z d rx_m259 163 L (rz_rv h a 25 :: S) (rz_mk h ι, w) := rz_gR rfl (by decide) c
theorem g259_163 : rg Z d rx_m259 163 [l0, l1, l2, l3, l4, some (.int x), l6, l7, l8, l9, l10] S (rz_mk h ι, w) = rg Z d rx_m259 165 [l0, l1, l2, l3, l4, some (.int x), l6, l7, l8, l9, l10] (.int x :: S) (rz_mk h ι, w) := rz_s1 fun _ => rfl
theorem g259_165 : rg Z d rx_m259 165 L S (rz_mk h ι, w) = rg Z d rx_m259 166 L (.int 2 :: S) (rz_mk h ι, w) := rz_s1 fun _ => rfl
theorem g259_166 : rg Z d rx_m259 166 L (v3 :: v2 :: v1 :: []) (rz_mk h ι, w) = rz_k true (rz_f Z d 218 [v1, v2, v3] (rz_mk h ι, w)) (fun v σ' => rg Z d rx_m259 169 L (v.toList ++ []) σ') := rz_cs (pc := 166) (n := 3) (mi := 218) (S := v3 :: v2 :: v1 :: []) (rest := []) rfl rfl (Nat.le_of_ble_eq_true rfl) (Nat.le_of_ble_eq_true rfl)
theorem g259_169 : rg Z d rx_m259 169 [some (.ref a), l1, l2, l3, l4, l5, l6, l7, l8, l9, l10] S (rz_mk h ι, w) = rg Z d rx_m259 170 [some (.ref a), l1, l2, l3, l4, l5, l6, l7, l8, l9, l10] (.ref a :: S) (rz_mk h ι, w) := rz_s1 fun _ => rfl
theorem g259_170 (c : rz_fR h a 12 25) : rg Z d rx_m259 170 L (.ref a :: S) (rz_mk h ι, w) = rg Z d rx_m259 173 L (rz_rv h a 25 :: S) (rz_mk h ι, w) := rz_gR rfl (by decide) c
theorem g259_173 : rg Z d rx_m259 173 [l0, l1, l2, l3, l4, l5, some (.int x), l7, l8, l9, l10] S (rz_mk h ι, w) = rg Z d rx_m259 175 [l0, l1, l2, l3, l4, l5, some (.int x), l7, l8, l9, l10] (.int x :: S) (rz_mk h ι, w) := rz_s1 fun _ => rfl
theorem g259_175 : rg Z d rx_m259 175 L S (rz_mk h ι, w) = rg Z d rx_m259 176 L (.int 2 :: S) (rz_mk h ι, w) := rz_s1 fun _ => rfl
theorem g259_176 : rg Z d rx_m259 176 L (v3 :: v2 :: v1 :: [.int s0]) (rz_mk h ι, w) = rz_k true (rz_f Z d 218 [v1, v2, v3] (rz_mk h ι, w)) (fun v σ' => rg Z d rx_m259 179 L (v.toList ++ [.int s0]) σ') := rz_cs (pc := 176) (n := 3) (mi := 218) (S := v3 :: v2 :: v1 :: [.int s0]) (rest := [.int s0]) rfl rfl (Nat.le_of_ble_eq_true rfl) (Nat.le_of_ble_eq_true rfl)
theorem g259_179 : rg Z d rx_m259 179 L (.int y :: .int x :: S) (rz_mk h ι, w) = rg Z d rx_m259 180 L (.int (x + y) :: S) (rz_mk h ι, w) := rz_s1 fun _ => rfl
theorem g259_180 : rg Z d rx_m259 180 L S (rz_mk h ι, w) = rg Z d rx_m259 181 L (.int 2 :: S) (rz_mk h ι, w) := rz_s1 fun _ => rfl
theorem g259_181 : rg Z d rx_m259 181 L (.int 2 :: .int x :: S) (rz_mk h ι, w) = rg Z d rx_m259 182 L (.int (x / 2) :: S) (rz_mk h ι, w) := rz_div rfl (by decide)
theorem g259_182 : rg Z d rx_m259 182 [l0, l1, l2, l3, l4, l5, l6, l7, some (.int z), l9, l10] (.int x :: S) (rz_mk h ι, w) = rg Z d rx_m259 184 [l0, l1, l2, l3, l4, l5, l6, l7, some (.int z), some (.int x), l10] S (rz_mk h ι, w) := rz_s1 fun _ => rfl
theorem g259_184 : rg Z d rx_m259 184 [some (.ref a), l1, l2, l3, l4, l5, l6, l7, l8, l9, l10] S (rz_mk h ι, w) = rg Z d rx_m259 185 [some (.ref a), l1, l2, l3, l4, l5, l6, l7, l8, l9, l10] (.ref a :: S) (rz_mk h ι, w) := rz_s1 fun _ => rfl
theorem g259_185 : rg Z d rx_m259 185 [some (.ref a), l1, l2, l3, l4, l5, l6, l7, l8, l9, l10] S (rz_mk h ι, w) = rg Z d rx_m259 186 [some (.ref a), l1, l2, l3, l4, l5, l6, l7, l8, l9, l10] (.ref a :: S) (rz_mk h ι, w) := rz_s1 fun _ => rfl
theorem g259_186 (c : rz_fR h a 12 25) : rg Z d rx_m259 186 L (.ref a :: S) (rz_mk h ι, w) = rg Z d rx_m259 189 L (rz_rv h a 25 :: S) (rz_mk h ι, w) := rz_gR rfl (by decide) c
theorem g259_189 : rg Z d rx_m259 189 [l0, l1, l2, l3, l4, l5, l6, some (.int x), l8, l9, l10] S (rz_mk h ι, w) = rg Z d rx_m259 191 [l0, l1, l2, l3, l4, l5, l6, some (.int x), l8, l9, l10] (.int x :: S) (rz_mk h ι, w) := rz_s1 fun _ => rfl
theorem g259_191 : rg Z d rx_m259 191 [l0, l1, l2, l3, l4, l5, l6, l7, some (.int x), l9, l10] S (rz_mk h ι, w) = rg Z d rx_m259 193 [l0, l1, l2, l3, l4, l5, l6, l7, some (.int x), l9, l10] (.int x :: S) (rz_mk h ι, w) := rz_s1 fun _ => rfl
theorem g259_193 : rg Z d rx_m259 193 [l0, l1, l2, l3, l4, l5, l6, l7, l8, some (.int x), l10] S (rz_mk h ι, w) = rg Z d rx_m259 195 [l0, l1, l2, l3, l4, l5, l6, l7, l8, some (.int x), l10] (.int x :: S) (rz_mk h ι, w) := rz_s1 fun _ => rfl
theorem g259_195 : rg Z d rx_m259 195 [some (.ref a), l1, l2, l3, l4, l5, l6, l7, l8, l9, l10] S (rz_mk h ι, w) = rg Z d rx_m259 196 [some (.ref a), l1, l2, l3, l4, l5, l6, l7, l8, l9, l10] (.ref a :: S) (rz_mk h ι, w) := rz_s1 fun _ => rfl
theorem g259_196 (c : rz_fR h a 12 25) : rg Z d rx_m259 196 L (.ref a :: S) (rz_mk h ι, w) = rg Z d rx_m259 199 L (rz_rv h a 25 :: S) (rz_mk h ι, w) := rz_gR rfl (by decide) c
theorem g259_199 : rg Z d rx_m259 199 [l0, l1, l2, l3, some (.int x), l5, l6, l7, l8, l9, l10] S (rz_mk h ι, w) = rg Z d rx_m259 201 [l0, l1, l2, l3, some (.int x), l5, l6, l7, l8, l9, l10] (.int x :: S) (rz_mk h ι, w) := rz_s1 fun _ => rfl
theorem g259_201 : rg Z d rx_m259 201 L S (rz_mk h ι, w) = rg Z d rx_m259 202 L (.int 0 :: S) (rz_mk h ι, w) := rz_s1 fun _ => rfl
theorem g259_202 : rg Z d rx_m259 202 L (v3 :: v2 :: v1 :: [.int s0, .int s1, .int s2, .ref t3, .ref t4]) (rz_mk h ι, w) = rz_k true (rz_f Z d 217 [v1, v2, v3] (rz_mk h ι, w)) (fun v σ' => rg Z d rx_m259 205 L (v.toList ++ [.int s0, .int s1, .int s2, .ref t3, .ref t4]) σ') := rz_cs (pc := 202) (n := 3) (mi := 217) (S := v3 :: v2 :: v1 :: [.int s0, .int s1, .int s2, .ref t3, .ref t4]) (rest := [.int s0, .int s1, .int s2, .ref t3, .ref t4]) rfl rfl (Nat.le_of_ble_eq_true rfl) (Nat.le_of_ble_eq_true rfl)
theorem g259_205 : rg Z d rx_m259 205 [some (.ref a), l1, l2, l3, l4, l5, l6, l7, l8, l9, l10] S (rz_mk h ι, w) = rg Z d rx_m259 206 [some (.ref a), l1, l2, l3, l4, l5, l6, l7, l8, l9, l10] (.ref a :: S) (rz_mk h ι, w) := rz_s1 fun _ => rfl
theorem g259_206 (c : rz_fR h a 12 25) : rg Z d rx_m259 206 L (.ref a :: S) (rz_mk h ι, w) = rg Z d rx_m259 209 L (rz_rv h a 25 :: S) (rz_mk h ι, w) := rz_gR rfl (by decide) c
theorem g259_209 : rg Z d rx_m259 209 [l0, l1, l2, l3, some (.int x), l5, l6, l7, l8, l9, l10] S (rz_mk h ι, w) = rg Z d rx_m259 211 [l0, l1, l2, l3, some (.int x), l5, l6, l7, l8, l9, l10] (.int x :: S) (rz_mk h ι, w) := rz_s1 fun _ => rfl
theorem g259_211 : rg Z d rx_m259 211 L S (rz_mk h ι, w) = rg Z d rx_m259 212 L (.int 1 :: S) (rz_mk h ι, w) := rz_s1 fun _ => rfl
theorem g259_212 : rg Z d rx_m259 212 L (v3 :: v2 :: v1 :: [.int s0, .int s1, .int s2, .int s3, .ref t4, .ref t5]) (rz_mk h ι, w) = rz_k true (rz_f Z d 217 [v1, v2, v3] (rz_mk h ι, w)) (fun v σ' => rg Z d rx_m259 215 L (v.toList ++ [.int s0, .int s1, .int s2, .int s3, .ref t4, .ref t5]) σ') := rz_cs (pc := 212) (n := 3) (mi := 217) (S := v3 :: v2 :: v1 :: [.int s0, .int s1, .int s2, .int s3, .ref t4, .ref t5]) (rest := [.int s0, .int s1, .int s2, .int s3, .ref t4, .ref t5]) rfl rfl (Nat.le_of_ble_eq_true rfl) (Nat.le_of_ble_eq_true rfl)
theorem g259_215 : rg Z d rx_m259 215 [some (.ref a), l1, l2, l3, l4, l5, l6, l7, l8, l9, l10] S (rz_mk h ι, w) = rg Z d rx_m259 216 [some (.ref a), l1, l2, l3, l4, l5, l6, l7, l8, l9, l10] (.ref a :: S) (rz_mk h ι, w) := rz_s1 fun _ => rfl
theorem g259_216 (c : rz_fR h a 12 25) : rg Z d rx_m259 216 L (.ref a :: S) (rz_mk h ι, w) = rg Z d rx_m259 219 L (rz_rv h a 25 :: S) (rz_mk h ι, w) := rz_gR rfl (by decide) c
theorem g259_219 : rg Z d rx_m259 219 [l0, l1, l2, l3, some (.int x), l5, l6, l7, l8, l9, l10] S (rz_mk h ι, w) = rg Z d rx_m259 221 [l0, l1, l2, l3, some (.int x), l5, l6, l7, l8, l9, l10] (.int x :: S) (rz_mk h ι, w) := rz_s1 fun _ => rfl
theorem g259_221 : rg Z d rx_m259 221 L S (rz_mk h ι, w) = rg Z d rx_m259 222 L (.int 2 :: S) (rz_mk h ι, w) := rz_s1 fun _ => rfl
theorem g259_222 : rg Z d rx_m259 222 L (v3 :: v2 :: v1 :: [.int s0, .int s1, .int s2, .int s3, .int s4, .ref t5, .ref t6]) (rz_mk h ι, w) = rz_k true (rz_f Z d 217 [v1, v2, v3] (rz_mk h ι, w)) (fun v σ' => rg Z d rx_m259 225 L (v.toList ++ [.int s0, .int s1, .int s2, .int s3, .int s4, .ref t5, .ref t6]) σ') := rz_cs (pc := 222) (n := 3) (mi := 217) (S := v3 :: v2 :: v1 :: [.int s0, .int s1, .int s2, .int s3, .int s4, .ref t5, .ref t6]) (rest := [.int s0, .int s1, .int s2, .int s3, .int s4, .ref t5, .ref t6]) rfl rfl (Nat.le_of_ble_eq_true rfl) (Nat.le_of_ble_eq_true rfl)
theorem g259_225 : rg Z d rx_m259 225 L S (rz_mk h ι, w) = rg Z d rx_m259 226 L (.int 0 :: S) (rz_mk h ι, w) := rz_s1 fun _ => rfl
theorem g259_226 : rg Z d rx_m259 226 L S (rz_mk h ι, w) = rg Z d rx_m259 227 L (.int 0 :: S) (rz_mk h ι, w) := rz_s1 fun _ => rfl
theorem g259_227 : rg Z d rx_m259 227 [some (.ref a), l1, l2, l3, l4, l5, l6, l7, l8, l9, l10] S (rz_mk h ι, w) = rg Z d rx_m259 228 [some (.ref a), l1, l2, l3, l4, l5, l6, l7, l8, l9, l10] (.ref a :: S) (rz_mk h ι, w) := rz_s1 fun _ => rfl
theorem g259_228 (c : rz_fR h a 12 25) : rg Z d rx_m259 228 L (.ref a :: S) (rz_mk h ι, w) = rg Z d rx_m259 231 L (rz_rv h a 25 :: S) (rz_mk h ι, w) := rz_gR rfl (by decide) c
theorem g259_231 : rg Z d rx_m259 231 L S (rz_mk h ι, w) = rg Z d rx_m259 233 L (.int 57 :: S) (rz_mk h ι, w) := rz_s1 fun _ => rfl
theorem g259_233 (c : rz_ar h a 0) (hi : rz_ix x (rz_ln h a)) : rg Z d rx_m259 233 L (.int x :: .ref a :: S) (rz_mk h ι, w) = rg Z d rx_m259 234 L (.int (ι a x.toNatClampNeg) :: S) (rz_mk h ι, w) := rz_iald rfl c hi
theorem g259_234 (c : rz_oc h a 12) : rg Z d rx_m259 234 L (v10 :: v9 :: v8 :: v7 :: v6 :: v5 :: v4 :: v3 :: v2 :: v1 :: .ref a :: []) (rz_mk h ι, w) = rz_k true (rz_f Z d 216 [.ref a, v1, v2, v3, v4, v5, v6, v7, v8, v9, v10] (rz_mk h ι, w)) (fun v σ' => rg Z d rx_m259 237 L (v.toList ++ []) σ') := rz_cv (pc := 234) (n := 10) (mi := 216) (S := v10 :: v9 :: v8 :: v7 :: v6 :: v5 :: v4 :: v3 :: v2 :: v1 :: .ref a :: []) (rest := []) rfl rfl (Nat.le_of_ble_eq_true rfl) (Nat.le_of_ble_eq_true rfl) c
theorem g259_237 : rg Z d rx_m259 237 [l0, l1, l2, l3, l4, l5, l6, l7, l8, some (.int z), l10] (.int x :: S) (rz_mk h ι, w) = rg Z d rx_m259 239 [l0, l1, l2, l3, l4, l5, l6, l7, l8, some (.int z), some (.int x)] S (rz_mk h ι, w) := rz_s1 fun _ => rfl
theorem g259_239 : rg Z d rx_m259 239 [l0, l1, l2, l3, l4, l5, l6, l7, l8, l9, some (.int x)] S (rz_mk h ι, w) = rg Z d rx_m259 241 [l0, l1, l2, l3, l4, l5, l6, l7, l8, l9, some (.int x)] (.int x :: S) (rz_mk h ι, w) := rz_s1 fun _ => rfl
theorem g259_241 : rg Z d rx_m259 241 [l0, l1, l2, some (.int x), l4, l5, l6, l7, l8, l9, l10] S (rz_mk h ι, w) = rg Z d rx_m259 242 [l0, l1, l2, some (.int x), l4, l5, l6, l7, l8, l9, l10] (.int x :: S) (rz_mk h ι, w) := rz_s1 fun _ => rfl
theorem g259_242 : rg Z d rx_m259 242 L (.int y :: .int x :: S) (rz_mk h ι, w) = if y < x then rg Z d rx_m259 248 L S (rz_mk h ι, w) else rg Z d rx_m259 245 L S (rz_mk h ι, w) := rz_if2 (pc := 242) (t := 248) (off := 6) (cc := .gt) (by decide) rfl
theorem g259_245 : rg Z d rx_m259 245 L S (rz_mk h ι, w) = rg Z d rx_m259 260 L S (rz_mk h ι, w) := rz_s1 fun _ => rfl
theorem g259_248 : rg Z d rx_m259 248 L S (rz_mk h ι, w) = rg Z d rx_m259 250 L (.int 10 :: S) (rz_mk h ι, w) := rz_s1 fun _ => rfl
theorem g259_250 : rg Z d rx_m259 250 [l0, l1, l2, l3, l4, some (.int x), l6, l7, l8, l9, l10] S (rz_mk h ι, w) = rg Z d rx_m259 252 [l0, l1, l2, l3, l4, some (.int x), l6, l7, l8, l9, l10] (.int x :: S) (rz_mk h ι, w) := rz_s1 fun _ => rfl
theorem g259_252 : rg Z d rx_m259 252 L (.int y :: .int x :: S) (rz_mk h ι, w) = rg Z d rx_m259 253 L (.int (x * y) :: S) (rz_mk h ι, w) := rz_s1 fun _ => rfl
theorem g259_253 : rg Z d rx_m259 253 [l0, l1, l2, l3, l4, l5, some (.int x), l7, l8, l9, l10] S (rz_mk h ι, w) = rg Z d rx_m259 255 [l0, l1, l2, l3, l4, l5, some (.int x), l7, l8, l9, l10] (.int x :: S) (rz_mk h ι, w) := rz_s1 fun _ => rfl
theorem g259_255 : rg Z d rx_m259 255 L (.int y :: .int x :: S) (rz_mk h ι, w) = rg Z d rx_m259 256 L (.int (x + y) :: S) (rz_mk h ι, w) := rz_s1 fun _ => rfl
theorem g259_256 : rg Z d rx_m259 256 [l0, some (.int z), l2, l3, l4, l5, l6, l7, l8, l9, l10] (.int x :: S) (rz_mk h ι, w) = rg Z d rx_m259 257 [l0, some (.int z), some (.int x), l3, l4, l5, l6, l7, l8, l9, l10] S (rz_mk h ι, w) := rz_s1 fun _ => rfl
theorem g259_257 : rg Z d rx_m259 257 [l0, l1, l2, l3, l4, l5, l6, l7, l8, l9, some (.int x)] S (rz_mk h ι, w) = rg Z d rx_m259 259 [l0, l1, l2, l3, l4, l5, l6, l7, l8, l9, some (.int x)] (.int x :: S) (rz_mk h ι, w) := rz_s1 fun _ => rfl
theorem g259_259 : rg Z d rx_m259 259 [l0, l1, some (.int z), l3, l4, l5, l6, l7, l8, l9, l10] (.int x :: S) (rz_mk h ι, w) = rg Z d rx_m259 260 [l0, l1, some (.int z), some (.int x), l4, l5, l6, l7, l8, l9, l10] S (rz_mk h ι, w) := rz_s1 fun _ => rfl
theorem g259_260 : rg Z d rx_m259 260 [l0, l1, l2, l3, l4, some (.int z), some (.int x), l7, l8, l9, l10] S (rz_mk h ι, w) = rg Z d rx_m259 263 [l0, l1, l2, l3, l4, some (.int z), some (.int (x + 1)), l7, l8, l9, l10] S (rz_mk h ι, w) := rz_s1 fun _ => rfl
theorem g259_263 : rg Z d rx_m259 263 L S (rz_mk h ι, w) = rg Z d rx_m259 70 L S (rz_mk h ι, w) := rz_s1 fun _ => rfl
theorem g259_266 : rg Z d rx_m259 266 [l0, l1, l2, l3, some (.int z), some (.int x), l6, l7, l8, l9, l10] S (rz_mk h ι, w) = rg Z d rx_m259 269 [l0, l1, l2, l3, some (.int z), some (.int (x + 1)), l6, l7, l8, l9, l10] S (rz_mk h ι, w) := rz_s1 fun _ => rfl
theorem g259_269 : rg Z d rx_m259 269 L S (rz_mk h ι, w) = rg Z d rx_m259 46 L S (rz_mk h ι, w) := rz_s1 fun _ => rfl
theorem g259_272 : rg Z d rx_m259 272 [l0, some (.int x), l2, l3, l4, l5, l6, l7, l8, l9, l10] S (rz_mk h ι, w) = rg Z d rx_m259 273 [l0, some (.int x), l2, l3, l4, l5, l6, l7, l8, l9, l10] (.int x :: S) (rz_mk h ι, w) := rz_s1 fun _ => rfl
theorem g259_273 : rg Z d rx_m259 273 L (.int x :: S) (rz_mk h ι, w) = if x = 0 then rg Z d rx_m259 276 L S (rz_mk h ι, w) else rg Z d rx_m259 280 L S (rz_mk h ι, w) := rz_if1 (pc := 273) (t := 280) (off := 7) (cc := .ne) (by decide) rfl
theorem g259_276 : rg Z d rx_m259 276 [l0, l1, some (.int x), l3, l4, l5, l6, l7, l8, l9, l10] S (rz_mk h ι, w) = rg Z d rx_m259 277 [l0, l1, some (.int x), l3, l4, l5, l6, l7, l8, l9, l10] (.int x :: S) (rz_mk h ι, w) := rz_s1 fun _ => rfl
theorem g259_277 : rg Z d rx_m259 277 L S (rz_mk h ι, w) = rg Z d rx_m259 281 L S (rz_mk h ι, w) := rz_s1 fun _ => rfl
theorem g259_280 : rg Z d rx_m259 280 [l0, l1, l2, some (.int x), l4, l5, l6, l7, l8, l9, l10] S (rz_mk h ι, w) = rg Z d rx_m259 281 [l0, l1, l2, some (.int x), l4, l5, l6, l7, l8, l9, l10] (.int x :: S) (rz_mk h ι, w) := rz_s1 fun _ => rfl
theorem g259_281 : rg Z d rx_m259 281 L [.int x] (rz_mk h ι, w) = some (.inl (some (.int x)), (rz_mk h ι, w)) := rz_reti rfl rfl rfl
theorem e259 : rz_f Z (d + 1) 259 [.ref t0, .int s1] σ = rg Z d rx_m259 0 [some (.ref t0), some (.int s1), none, none, none, none, none, none, none, none, none] [] σ := rz_f_eq rfl (Nat.le_of_ble_eq_true rfl)
theorem g260_0 : rg Z d rx_m260 0 [some (.ref a), l1, l2, l3, l4, l5] S (rz_mk h ι, w) = rg Z d rx_m260 1 [some (.ref a), l1, l2, l3, l4, l5] (.ref a :: S) (rz_mk h ι, w) := rz_s1 fun _ => rfl
theorem g260_1 : rg Z d rx_m260 1 L S (rz_mk h ι, w) = rg Z d rx_m260 2 L (.int 0 :: S) (rz_mk h ι, w) := rz_s1 fun _ => rfl
theorem g260_2 (c : rz_fI h a 12 0) (hz : Z.2.1 ≤ a) : rg Z d rx_m260 2 L (.int x :: .ref a :: S) (rz_mk h ι, w) = rg Z d rx_m260 5 L S (rz_mk h (rz_up ι a 0 x), w) := rz_pI rfl c hz
theorem g260_5 : rg Z d rx_m260 5 [some (.ref a), l1, l2, l3, l4, l5] S (rz_mk h ι, w) = rg Z d rx_m260 6 [some (.ref a), l1, l2, l3, l4, l5] (.ref a :: S) (rz_mk h ι, w) := rz_s1 fun _ => rfl
theorem g260_6 : rg Z d rx_m260 6 [l0, some (.int x), l2, l3, l4, l5] S (rz_mk h ι, w) = rg Z d rx_m260 7 [l0, some (.int x), l2, l3, l4, l5] (.int x :: S) (rz_mk h ι, w) := rz_s1 fun _ => rfl
theorem g260_7 : rg Z d rx_m260 7 L S (rz_mk h ι, w) = rg Z d rx_m260 8 L (.int 0 :: S) (rz_mk h ι, w) := rz_s1 fun _ => rfl
theorem g260_8 : rg Z d rx_m260 8 L S (rz_mk h ι, w) = rg Z d rx_m260 9 L (.int 1 :: S) (rz_mk h ι, w) := rz_s1 fun _ => rfl
theorem g260_9 : rg Z d rx_m260 9 L (v3 :: v2 :: v1 :: [.ref t0]) (rz_mk h ι, w) = rz_k true (rz_f Z d 175 [v1, v2, v3] (rz_mk h ι, w)) (fun v σ' => rg Z d rx_m260 12 L (v.toList ++ [.ref t0]) σ') := rz_cs (pc := 9) (n := 3) (mi := 175) (S := v3 :: v2 :: v1 :: [.ref t0]) (rest := [.ref t0]) rfl rfl (Nat.le_of_ble_eq_true rfl) (Nat.le_of_ble_eq_true rfl)
theorem g260_12 : rg Z d rx_m260 12 L (.int x :: S) (rz_mk h ι, w) = if x = 0 then rg Z d rx_m260 15 L S (rz_mk h ι, w) else rg Z d rx_m260 19 L S (rz_mk h ι, w) := rz_if1 (pc := 12) (t := 19) (off := 7) (cc := .ne) (by decide) rfl
theorem g260_15 : rg Z d rx_m260 15 L S (rz_mk h ι, w) = rg Z d rx_m260 16 L (.int 1 :: S) (rz_mk h ι, w) := rz_s1 fun _ => rfl
theorem g260_16 : rg Z d rx_m260 16 L S (rz_mk h ι, w) = rg Z d rx_m260 20 L S (rz_mk h ι, w) := rz_s1 fun _ => rfl
theorem g260_19 : rg Z d rx_m260 19 L S (rz_mk h ι, w) = rg Z d rx_m260 20 L (.int 0 :: S) (rz_mk h ι, w) := rz_s1 fun _ => rfl
theorem g260_20 : rg Z d rx_m260 20 L S (rz_mk h ι, w) = rg Z d rx_m260 21 L (.int 1 :: S) (rz_mk h ι, w) := rz_s1 fun _ => rfl
theorem g260_21 : rg Z d rx_m260 21 L S (rz_mk h ι, w) = rg Z d rx_m260 22 L (.int 1 :: S) (rz_mk h ι, w) := rz_s1 fun _ => rfl
theorem g260_22 (c : rz_oc h a 12) : rg Z d rx_m260 22 L (v3 :: v2 :: v1 :: .ref a :: []) (rz_mk h ι, w) = rz_k true (rz_f Z d 174 [.ref a, v1, v2, v3] (rz_mk h ι, w)) (fun v σ' => rg Z d rx_m260 25 L (v.toList ++ []) σ') := rz_cv (pc := 22) (n := 3) (mi := 174) (S := v3 :: v2 :: v1 :: .ref a :: []) (rest := []) rfl rfl (Nat.le_of_ble_eq_true rfl) (Nat.le_of_ble_eq_true rfl) c
theorem g260_25 : rg Z d rx_m260 25 L (.int x :: S) (rz_mk h ι, w) = if x = 0 then rg Z d rx_m260 30 L S (rz_mk h ι, w) else rg Z d rx_m260 28 L S (rz_mk h ι, w) := rz_if1 (pc := 25) (t := 30) (off := 5) (cc := .eq) (by decide) rfl
theorem g260_28 : rg Z d rx_m260 28 L S (rz_mk h ι, w) = rg Z d rx_m260 29 L (.int 0 :: S) (rz_mk h ι, w) := rz_s1 fun _ => rfl
theorem g260_29 : rg Z d rx_m260 29 L [.int x] (rz_mk h ι, w) = some (.inl (some (.int x)), (rz_mk h ι, w)) := rz_reti rfl rfl rfl
theorem g260_30 : rg Z d rx_m260 30 L S (rz_mk h ι, w) = rg Z d rx_m260 31 L (.int (-1) :: S) (rz_mk h ι, w) := rz_s1 fun _ => rfl
theorem g260_31 : rg Z d rx_m260 31 [l0, some (.int z), l2, l3, l4, l5] (.int x :: S) (rz_mk h ι, w) = rg Z d rx_m260 32 [l0, some (.int z), some (.int x), l3, l4, l5] S (rz_mk h ι, w) := rz_s1 fun _ => rfl
theorem g260_32 : rg Z d rx_m260 32 L S (rz_mk h ι, w) = rg Z d rx_m260 33 L (.int (-1) :: S) (rz_mk h ι, w) := rz_s1 fun _ => rfl
theorem g260_33 : rg Z d rx_m260 33 [l0, l1, some (.int z), l3, l4, l5] (.int x :: S) (rz_mk h ι, w) = rg Z d rx_m260 34 [l0, l1, some (.int z), some (.int x), l4, l5] S (rz_mk h ι, w) := rz_s1 fun _ => rfl
theorem g260_34 : rg Z d rx_m260 34 L S (rz_mk h ι, w) = rg Z d rx_m260 35 L (.int 0 :: S) (rz_mk h ι, w) := rz_s1 fun _ => rfl
theorem g260_35 : rg Z d rx_m260 35 [l0, l1, l2, some (.int z), l4, l5] (.int x :: S) (rz_mk h ι, w) = rg Z d rx_m260 37 [l0, l1, l2, some (.int z), some (.int x), l5] S (rz_mk h ι, w) := rz_s1 fun _ => rfl
theorem g260_37 : rg Z d rx_m260 37 [l0, l1, l2, l3, some (.int x), l5] S (rz_mk h ι, w) = rg Z d rx_m260 39 [l0, l1, l2, l3, some (.int x), l5] (.int x :: S) (rz_mk h ι, w) := rz_s1 fun _ => rfl
theorem g260_39 : rg Z d rx_m260 39 [some (.ref a), l1, l2, l3, l4, l5] S (rz_mk h ι, w) = rg Z d rx_m260 40 [some (.ref a), l1, l2, l3, l4, l5] (.ref a :: S) (rz_mk h ι, w) := rz_s1 fun _ => rfl
theorem g260_40 (c : rz_fR h a 12 25) : rg Z d rx_m260 40 L (.ref a :: S) (rz_mk h ι, w) = rg Z d rx_m260 43 L (rz_rv h a 25 :: S) (rz_mk h ι, w) := rz_gR rfl (by decide) c
theorem g260_43 : rg Z d rx_m260 43 L S (rz_mk h ι, w) = rg Z d rx_m260 45 L (.int 57 :: S) (rz_mk h ι, w) := rz_s1 fun _ => rfl
theorem g260_45 (c : rz_ar h a 0) (hi : rz_ix x (rz_ln h a)) : rg Z d rx_m260 45 L (.int x :: .ref a :: S) (rz_mk h ι, w) = rg Z d rx_m260 46 L (.int (ι a x.toNatClampNeg) :: S) (rz_mk h ι, w) := rz_iald rfl c hi
theorem g260_46 : rg Z d rx_m260 46 L (.int y :: .int x :: S) (rz_mk h ι, w) = if x < y then rg Z d rx_m260 49 L S (rz_mk h ι, w) else rg Z d rx_m260 126 L S (rz_mk h ι, w) := rz_if2 (pc := 46) (t := 126) (off := 80) (cc := .ge) (by decide) rfl
theorem g260_49 : rg Z d rx_m260 49 [some (.ref a), l1, l2, l3, l4, l5] S (rz_mk h ι, w) = rg Z d rx_m260 50 [some (.ref a), l1, l2, l3, l4, l5] (.ref a :: S) (rz_mk h ι, w) := rz_s1 fun _ => rfl
theorem g260_50 (c : rz_fR h a 12 25) : rg Z d rx_m260 50 L (.ref a :: S) (rz_mk h ι, w) = rg Z d rx_m260 53 L (rz_rv h a 25 :: S) (rz_mk h ι, w) := rz_gR rfl (by decide) c
theorem g260_53 : rg Z d rx_m260 53 L S (rz_mk h ι, w) = rg Z d rx_m260 55 L (.int 56 :: S) (rz_mk h ι, w) := rz_s1 fun _ => rfl
theorem g260_55 (c : rz_ar h a 0) (hi : rz_ix x (rz_ln h a)) : rg Z d rx_m260 55 L (.int x :: .ref a :: S) (rz_mk h ι, w) = rg Z d rx_m260 56 L (.int (ι a x.toNatClampNeg) :: S) (rz_mk h ι, w) := rz_iald rfl c hi
theorem g260_56 : rg Z d rx_m260 56 L (v1 :: []) (rz_mk h ι, w) = rz_k true (rz_f Z d 234 [v1] (rz_mk h ι, w)) (fun v σ' => rg Z d rx_m260 59 L (v.toList ++ []) σ') := rz_cs (pc := 56) (n := 1) (mi := 234) (S := v1 :: []) (rest := []) rfl rfl (Nat.le_of_ble_eq_true rfl) (Nat.le_of_ble_eq_true rfl)
theorem g260_59 : rg Z d rx_m260 59 L S (rz_mk h ι, w) = rg Z d rx_m260 60 L (.int 1 :: S) (rz_mk h ι, w) := rz_s1 fun _ => rfl
theorem g260_60 : rg Z d rx_m260 60 L (.int y :: .int x :: S) (rz_mk h ι, w) = if y < x then rg Z d rx_m260 63 L S (rz_mk h ι, w) else rg Z d rx_m260 126 L S (rz_mk h ι, w) := rz_if2 (pc := 60) (t := 126) (off := 66) (cc := .le) (by decide) rfl
theorem g260_63 : rg Z d rx_m260 63 [some (.ref a), l1, l2, l3, l4, l5] S (rz_mk h ι, w) = rg Z d rx_m260 64 [some (.ref a), l1, l2, l3, l4, l5] (.ref a :: S) (rz_mk h ι, w) := rz_s1 fun _ => rfl
theorem g260_64 (c : rz_fR h a 12 25) : rg Z d rx_m260 64 L (.ref a :: S) (rz_mk h ι, w) = rg Z d rx_m260 67 L (rz_rv h a 25 :: S) (rz_mk h ι, w) := rz_gR rfl (by decide) c
theorem g260_67 : rg Z d rx_m260 67 [l0, l1, l2, l3, some (.int x), l5] S (rz_mk h ι, w) = rg Z d rx_m260 69 [l0, l1, l2, l3, some (.int x), l5] (.int x :: S) (rz_mk h ι, w) := rz_s1 fun _ => rfl
theorem g260_69 : rg Z d rx_m260 69 L (v2 :: v1 :: []) (rz_mk h ι, w) = rz_k true (rz_f Z d 222 [v1, v2] (rz_mk h ι, w)) (fun v σ' => rg Z d rx_m260 72 L (v.toList ++ []) σ') := rz_cs (pc := 69) (n := 2) (mi := 222) (S := v2 :: v1 :: []) (rest := []) rfl rfl (Nat.le_of_ble_eq_true rfl) (Nat.le_of_ble_eq_true rfl)
theorem g260_72 : rg Z d rx_m260 72 L (.int x :: S) (rz_mk h ι, w) = if x = 0 then rg Z d rx_m260 75 L S (rz_mk h ι, w) else rg Z d rx_m260 78 L S (rz_mk h ι, w) := rz_if1 (pc := 72) (t := 78) (off := 6) (cc := .ne) (by decide) rfl
theorem g260_75 : rg Z d rx_m260 75 L S (rz_mk h ι, w) = rg Z d rx_m260 120 L S (rz_mk h ι, w) := rz_s1 fun _ => rfl
theorem g260_78 : rg Z d rx_m260 78 [some (.ref a), l1, l2, l3, l4, l5] S (rz_mk h ι, w) = rg Z d rx_m260 79 [some (.ref a), l1, l2, l3, l4, l5] (.ref a :: S) (rz_mk h ι, w) := rz_s1 fun _ => rfl
theorem g260_79 : rg Z d rx_m260 79 [some (.ref a), l1, l2, l3, l4, l5] S (rz_mk h ι, w) = rg Z d rx_m260 80 [some (.ref a), l1, l2, l3, l4, l5] (.ref a :: S) (rz_mk h ι, w) := rz_s1 fun _ => rfl
theorem g260_80 (c : rz_fR h a 12 25) : rg Z d rx_m260 80 L (.ref a :: S) (rz_mk h ι, w) = rg Z d rx_m260 83 L (rz_rv h a 25 :: S) (rz_mk h ι, w) := rz_gR rfl (by decide) c
theorem g260_83 : rg Z d rx_m260 83 [some (.ref a), l1, l2, l3, l4, l5] S (rz_mk h ι, w) = rg Z d rx_m260 84 [some (.ref a), l1, l2, l3, l4, l5] (.ref a :: S) (rz_mk h ι, w) := rz_s1 fun _ => rfl
theorem g260_84 : rg Z d rx_m260 84 [some (.ref a), l1, l2, l3, l4, l5] S (rz_mk h ι, w) = rg Z d rx_m260 85 [some (.ref a), l1, l2, l3, l4, l5] (.ref a :: S) (rz_mk h ι, w) := rz_s1 fun _ => rfl
theorem g260_85 (c : rz_fR h a 12 25) : rg Z d rx_m260 85 L (.ref a :: S) (rz_mk h ι, w) = rg Z d rx_m260 88 L (rz_rv h a 25 :: S) (rz_mk h ι, w) := rz_gR rfl (by decide) c
theorem g260_88 : rg Z d rx_m260 88 [l0, l1, l2, l3, some (.int x), l5] S (rz_mk h ι, w) = rg Z d rx_m260 90 [l0, l1, l2, l3, some (.int x), l5] (.int x :: S) (rz_mk h ι, w) := rz_s1 fun _ => rfl
theorem g260_90 (c : rz_oc h a 12) : rg Z d rx_m260 90 L (v2 :: v1 :: .ref a :: [.ref t0, .ref t1]) (rz_mk h ι, w) = rz_k true (rz_f Z d 223 [.ref a, v1, v2] (rz_mk h ι, w)) (fun v σ' => rg Z d rx_m260 93 L (v.toList ++ [.ref t0, .ref t1]) σ') := rz_cv (pc := 90) (n := 2) (mi := 223) (S := v2 :: v1 :: .ref a :: [.ref t0, .ref t1]) (rest := [.ref t0, .ref t1]) rfl rfl (Nat.le_of_ble_eq_true rfl) (Nat.le_of_ble_eq_true rfl) c
theorem g260_93 : rg Z d rx_m260 93 [l0, l1, l2, l3, some (.int x), l5] S (rz_mk h ι, w) = rg Z d rx_m260 95 [l0, l1, l2, l3, some (.int x), l5] (.int x :: S) (rz_mk h ι, w) := rz_s1 fun _ => rfl
theorem g260_95 (c : rz_oc h a 12) : rg Z d rx_m260 95 L (v3 :: v2 :: v1 :: .ref a :: []) (rz_mk h ι, w) = rz_k true (rz_f Z d 221 [.ref a, v1, v2, v3] (rz_mk h ι, w)) (fun v σ' => rg Z d rx_m260 98 L (v.toList ++ []) σ') := rz_cv (pc := 95) (n := 3) (mi := 221) (S := v3 :: v2 :: v1 :: .ref a :: []) (rest := []) rfl rfl (Nat.le_of_ble_eq_true rfl) (Nat.le_of_ble_eq_true rfl) c
theorem g260_98 : rg Z d rx_m260 98 [l0, l1, l2, l3, some (.int z), l5] (.int x :: S) (rz_mk h ι, w) = rg Z d rx_m260 100 [l0, l1, l2, l3, some (.int z), some (.int x)] S (rz_mk h ι, w) := rz_s1 fun _ => rfl
theorem g260_100 : rg Z d rx_m260 100 [l0, l1, l2, some (.int x), l4, l5] S (rz_mk h ι, w) = rg Z d rx_m260 101 [l0, l1, l2, some (.int x), l4, l5] (.int x :: S) (rz_mk h ι, w) := rz_s1 fun _ => rfl
theorem g260_101 : rg Z d rx_m260 101 L S (rz_mk h ι, w) = rg Z d rx_m260 102 L (.int (-1) :: S) (rz_mk h ι, w) := rz_s1 fun _ => rfl
theorem g260_102 : rg Z d rx_m260 102 L (.int y :: .int x :: S) (rz_mk h ι, w) = if x = y then rg Z d rx_m260 114 L S (rz_mk h ι, w) else rg Z d rx_m260 105 L S (rz_mk h ι, w) := rz_if2 (pc := 102) (t := 114) (off := 12) (cc := .eq) (by decide) rfl
theorem g260_105 : rg Z d rx_m260 105 [l0, l1, l2, l3, l4, some (.int x)] S (rz_mk h ι, w) = rg Z d rx_m260 107 [l0, l1, l2, l3, l4, some (.int x)] (.int x :: S) (rz_mk h ι, w) := rz_s1 fun _ => rfl
theorem g260_107 : rg Z d rx_m260 107 [l0, l1, l2, some (.int x), l4, l5] S (rz_mk h ι, w) = rg Z d rx_m260 108 [l0, l1, l2, some (.int x), l4, l5] (.int x :: S) (rz_mk h ι, w) := rz_s1 fun _ => rfl
theorem g260_108 : rg Z d rx_m260 108 L (.int y :: .int x :: S) (rz_mk h ι, w) = if x < y then rg Z d rx_m260 114 L S (rz_mk h ι, w) else rg Z d rx_m260 111 L S (rz_mk h ι, w) := rz_if2 (pc := 108) (t := 114) (off := 6) (cc := .lt) (by decide) rfl
theorem g260_111 : rg Z d rx_m260 111 L S (rz_mk h ι, w) = rg Z d rx_m260 120 L S (rz_mk h ι, w) := rz_s1 fun _ => rfl
theorem g260_114 : rg Z d rx_m260 114 [l0, l1, l2, l3, some (.int x), l5] S (rz_mk h ι, w) = rg Z d rx_m260 116 [l0, l1, l2, l3, some (.int x), l5] (.int x :: S) (rz_mk h ι, w) := rz_s1 fun _ => rfl
theorem g260_116 : rg Z d rx_m260 116 [l0, some (.int z), l2, l3, l4, l5] (.int x :: S) (rz_mk h ι, w) = rg Z d rx_m260 117 [l0, some (.int z), some (.int x), l3, l4, l5] S (rz_mk h ι, w) := rz_s1 fun _ => rfl
theorem g260_117 : rg Z d rx_m260 117 [l0, l1, l2, l3, l4, some (.int x)] S (rz_mk h ι, w) = rg Z d rx_m260 119 [l0, l1, l2, l3, l4, some (.int x)] (.int x :: S) (rz_mk h ι, w) := rz_s1 fun _ => rfl
theorem g260_119 : rg Z d rx_m260 119 [l0, l1, some (.int z), l3, l4, l5] (.int x :: S) (rz_mk h ι, w) = rg Z d rx_m260 120 [l0, l1, some (.int z), some (.int x), l4, l5] S (rz_mk h ι, w) := rz_s1 fun _ => rfl
theorem g260_120 : rg Z d rx_m260 120 [l0, l1, l2, some (.int z), some (.int x), l5] S (rz_mk h ι, w) = rg Z d rx_m260 123 [l0, l1, l2, some (.int z), some (.int (x + 1)), l5] S (rz_mk h ι, w) := rz_s1 fun _ => rfl
theorem g260_123 : rg Z d rx_m260 123 L S (rz_mk h ι, w) = rg Z d rx_m260 37 L S (rz_mk h ι, w) := rz_s1 fun _ => rfl
theorem g260_126 : rg Z d rx_m260 126 [l0, some (.int x), l2, l3, l4, l5] S (rz_mk h ι, w) = rg Z d rx_m260 127 [l0, some (.int x), l2, l3, l4, l5] (.int x :: S) (rz_mk h ι, w) := rz_s1 fun _ => rfl
theorem g260_127 : rg Z d rx_m260 127 L (.int x :: S) (rz_mk h ι, w) = if x = 0 then rg Z d rx_m260 130 L S (rz_mk h ι, w) else rg Z d rx_m260 134 L S (rz_mk h ι, w) := rz_if1 (pc := 127) (t := 134) (off := 7) (cc := .ne) (by decide) rfl
theorem g260_130 : rg Z d rx_m260 130 [l0, l1, some (.int x), l3, l4, l5] S (rz_mk h ι, w) = rg Z d rx_m260 131 [l0, l1, some (.int x), l3, l4, l5] (.int x :: S) (rz_mk h ι, w) := rz_s1 fun _ => rfl
theorem g260_131 : rg Z d rx_m260 131 L S (rz_mk h ι, w) = rg Z d rx_m260 135 L S (rz_mk h ι, w) := rz_s1 fun _ => rfl
theorem g260_134 : rg Z d rx_m260 134 [l0, l1, l2, some (.int x), l4, l5] S (rz_mk h ι, w) = rg Z d rx_m260 135 [l0, l1, l2, some (.int x), l4, l5] (.int x :: S) (rz_mk h ι, w) := rz_s1 fun _ => rfl
theorem g260_135 : rg Z d rx_m260 135 L [.int x] (rz_mk h ι, w) = some (.inl (some (.int x)), (rz_mk h ι, w)) := rz_reti rfl rfl rfl
theorem e260 : rz_f Z (d + 1) 260 [.ref t0, .int s1] σ = rg Z d rx_m260 0 [some (.ref t0), some (.int s1), none, none, none, none] [] σ := rz_f_eq rfl (Nat.le_of_ble_eq_true rfl)
theorem g261_0 : rg Z d rx_m261 0 [some (.ref a), l1, l2, l3, l4, l5, l6, l7, l8, l9, l10, l11, l12, l13, l14] S (rz_mk h ι, w) = rg Z d rx_m261 1 [some (.ref a), l1, l2, l3, l4, l5, l6, l7, l8, l9, l10, l11, l12, l13, l14] (.ref a :: S) (rz_mk h ι, w) := rz_s1 fun _ => rfl
theorem g261_1 : rg Z d rx_m261 1 L S (rz_mk h ι, w) = rg Z d rx_m261 2 L (.int 0 :: S) (rz_mk h ι, w) := rz_s1 fun _ => rfl
theorem g261_2 (c : rz_fI h a 12 0) (hz : Z.2.1 ≤ a) : rg Z d rx_m261 2 L (.int x :: .ref a :: S) (rz_mk h ι, w) = rg Z d rx_m261 5 L S (rz_mk h (rz_up ι a 0 x), w) := rz_pI rfl c hz
theorem g261_5 : rg Z d rx_m261 5 [some (.ref a), l1, l2, l3, l4, l5, l6, l7, l8, l9, l10, l11, l12, l13, l14] S (rz_mk h ι, w) = rg Z d rx_m261 6 [some (.ref a), l1, l2, l3, l4, l5, l6, l7, l8, l9, l10, l11, l12, l13, l14] (.ref a :: S) (rz_mk h ι, w) := rz_s1 fun _ => rfl
theorem g261_6 : rg Z d rx_m261 6 [l0, some (.int x), l2, l3, l4, l5, l6, l7, l8, l9, l10, l11, l12, l13, l14] S (rz_mk h ι, w) = rg Z d rx_m261 7 [l0, some (.int x), l2, l3, l4, l5, l6, l7, l8, l9, l10, l11, l12, l13, l14] (.int x :: S) (rz_mk h ι, w) := rz_s1 fun _ => rfl
theorem g261_7 : rg Z d rx_m261 7 L S (rz_mk h ι, w) = rg Z d rx_m261 8 L (.int 0 :: S) (rz_mk h ι, w) := rz_s1 fun _ => rfl
theorem g261_8 : rg Z d rx_m261 8 L S (rz_mk h ι, w) = rg Z d rx_m261 10 L (.int 12 :: S) (rz_mk h ι, w) := rz_s1 fun _ => rfl
theorem g261_10 : rg Z d rx_m261 10 L (v3 :: v2 :: v1 :: [.ref t0]) (rz_mk h ι, w) = rz_k true (rz_f Z d 175 [v1, v2, v3] (rz_mk h ι, w)) (fun v σ' => rg Z d rx_m261 13 L (v.toList ++ [.ref t0]) σ') := rz_cs (pc := 10) (n := 3) (mi := 175) (S := v3 :: v2 :: v1 :: [.ref t0]) (rest := [.ref t0]) rfl rfl (Nat.le_of_ble_eq_true rfl) (Nat.le_of_ble_eq_true rfl)
theorem g261_13 : rg Z d rx_m261 13 L (.int x :: S) (rz_mk h ι, w) = if x = 0 then rg Z d rx_m261 46 L S (rz_mk h ι, w) else rg Z d rx_m261 16 L S (rz_mk h ι, w) := rz_if1 (pc := 13) (t := 46) (off := 33) (cc := .eq) (by decide) rfl
theorem g261_16 : rg Z d rx_m261 16 [l0, l1, some (.int x), l3, l4, l5, l6, l7, l8, l9, l10, l11, l12, l13, l14] S (rz_mk h ι, w) = rg Z d rx_m261 17 [l0, l1, some (.int x), l3, l4, l5, l6, l7, l8, l9, l10, l11, l12, l13, l14] (.int x :: S) (rz_mk h ι, w) := rz_s1 fun _ => rfl
theorem g261_17 : rg Z d rx_m261 17 L S (rz_mk h ι, w) = rg Z d rx_m261 18 L (.int 0 :: S) (rz_mk h ι, w) := rz_s1 fun _ => rfl
theorem g261_18 : rg Z d rx_m261 18 L S (rz_mk h ι, w) = rg Z d rx_m261 20 L (.int 13 :: S) (rz_mk h ι, w) := rz_s1 fun _ => rfl
theorem g261_20 : rg Z d rx_m261 20 L (v3 :: v2 :: v1 :: [.ref t0]) (rz_mk h ι, w) = rz_k true (rz_f Z d 175 [v1, v2, v3] (rz_mk h ι, w)) (fun v σ' => rg Z d rx_m261 23 L (v.toList ++ [.ref t0]) σ') := rz_cs (pc := 20) (n := 3) (mi := 175) (S := v3 :: v2 :: v1 :: [.ref t0]) (rest := [.ref t0]) rfl rfl (Nat.le_of_ble_eq_true rfl) (Nat.le_of_ble_eq_true rfl)
theorem g261_23 : rg Z d rx_m261 23 L (.int x :: S) (rz_mk h ι, w) = if x = 0 then rg Z d rx_m261 46 L S (rz_mk h ι, w) else rg Z d rx_m261 26 L S (rz_mk h ι, w) := rz_if1 (pc := 23) (t := 46) (off := 23) (cc := .eq) (by decide) rfl
theorem g261_26 : rg Z d rx_m261 26 [l0, l1, l2, some (.int x), l4, l5, l6, l7, l8, l9, l10, l11, l12, l13, l14] S (rz_mk h ι, w) = rg Z d rx_m261 27 [l0, l1, l2, some (.int x), l4, l5, l6, l7, l8, l9, l10, l11, l12, l13, l14] (.int x :: S) (rz_mk h ι, w) := rz_s1 fun _ => rfl
theorem g261_27 : rg Z d rx_m261 27 L S (rz_mk h ι, w) = rg Z d rx_m261 28 L (.int 0 :: S) (rz_mk h ι, w) := rz_s1 fun _ => rfl
theorem g261_28 : rg Z d rx_m261 28 L S (rz_mk h ι, w) = rg Z d rx_m261 30 L (.int 16 :: S) (rz_mk h ι, w) := rz_s1 fun _ => rfl
theorem g261_30 : rg Z d rx_m261 30 L (v3 :: v2 :: v1 :: [.ref t0]) (rz_mk h ι, w) = rz_k true (rz_f Z d 175 [v1, v2, v3] (rz_mk h ι, w)) (fun v σ' => rg Z d rx_m261 33 L (v.toList ++ [.ref t0]) σ') := rz_cs (pc := 30) (n := 3) (mi := 175) (S := v3 :: v2 :: v1 :: [.ref t0]) (rest := [.ref t0]) rfl rfl (Nat.le_of_ble_eq_true rfl) (Nat.le_of_ble_eq_true rfl)
theorem g261_33 : rg Z d rx_m261 33 L (.int x :: S) (rz_mk h ι, w) = if x = 0 then rg Z d rx_m261 46 L S (rz_mk h ι, w) else rg Z d rx_m261 36 L S (rz_mk h ι, w) := rz_if1 (pc := 33) (t := 46) (off := 13) (cc := .eq) (by decide) rfl
theorem g261_36 : rg Z d rx_m261 36 [l0, l1, l2, l3, some (.int x), l5, l6, l7, l8, l9, l10, l11, l12, l13, l14] S (rz_mk h ι, w) = rg Z d rx_m261 38 [l0, l1, l2, l3, some (.int x), l5, l6, l7, l8, l9, l10, l11, l12, l13, l14] (.int x :: S) (rz_mk h ι, w) := rz_s1 fun _ => rfl
theorem g261_38 : rg Z d rx_m261 38 L S (rz_mk h ι, w) = rg Z d rx_m261 39 L (.int 0 :: S) (rz_mk h ι, w) := rz_s1 fun _ => rfl
theorem g261_39 : rg Z d rx_m261 39 L S (rz_mk h ι, w) = rg Z d rx_m261 40 L (.int 1 :: S) (rz_mk h ι, w) := rz_s1 fun _ => rfl
theorem g261_40 : rg Z d rx_m261 40 L (v3 :: v2 :: v1 :: [.ref t0]) (rz_mk h ι, w) = rz_k true (rz_f Z d 175 [v1, v2, v3] (rz_mk h ι, w)) (fun v σ' => rg Z d rx_m261 43 L (v.toList ++ [.ref t0]) σ') := rz_cs (pc := 40) (n := 3) (mi := 175) (S := v3 :: v2 :: v1 :: [.ref t0]) (rest := [.ref t0]) rfl rfl (Nat.le_of_ble_eq_true rfl) (Nat.le_of_ble_eq_true rfl)
theorem g261_43 : rg Z d rx_m261 43 L (.int x :: S) (rz_mk h ι, w) = if x = 0 then rg Z d rx_m261 46 L S (rz_mk h ι, w) else rg Z d rx_m261 50 L S (rz_mk h ι, w) := rz_if1 (pc := 43) (t := 50) (off := 7) (cc := .ne) (by decide) rfl
theorem g261_46 : rg Z d rx_m261 46 L S (rz_mk h ι, w) = rg Z d rx_m261 47 L (.int 1 :: S) (rz_mk h ι, w) := rz_s1 fun _ => rfl
theorem g261_47 : rg Z d rx_m261 47 L S (rz_mk h ι, w) = rg Z d rx_m261 51 L S (rz_mk h ι, w) := rz_s1 fun _ => rfl
theorem g261_50 : rg Z d rx_m261 50 L S (rz_mk h ι, w) = rg Z d rx_m261 51 L (.int 0 :: S) (rz_mk h ι, w) := rz_s1 fun _ => rfl
theorem g261_51 : rg Z d rx_m261 51 L S (rz_mk h ι, w) = rg Z d rx_m261 52 L (.int 1 :: S) (rz_mk h ι, w) := rz_s1 fun _ => rfl
theorem g261_52 : rg Z d rx_m261 52 L S (rz_mk h ι, w) = rg Z d rx_m261 53 L (.int 1 :: S) (rz_mk h ι, w) := rz_s1 fun _ => rfl
theorem g261_53 (c : rz_oc h a 12) : rg Z d rx_m261 53 L (v3 :: v2 :: v1 :: .ref a :: []) (rz_mk h ι, w) = rz_k true (rz_f Z d 174 [.ref a, v1, v2, v3] (rz_mk h ι, w)) (fun v σ' => rg Z d rx_m261 56 L (v.toList ++ []) σ') := rz_cv (pc := 53) (n := 3) (mi := 174) (S := v3 :: v2 :: v1 :: .ref a :: []) (rest := []) rfl rfl (Nat.le_of_ble_eq_true rfl) (Nat.le_of_ble_eq_true rfl) c
theorem g261_56 : rg Z d rx_m261 56 L (.int x :: S) (rz_mk h ι, w) = if x = 0 then rg Z d rx_m261 61 L S (rz_mk h ι, w) else rg Z d rx_m261 59 L S (rz_mk h ι, w) := rz_if1 (pc := 56) (t := 61) (off := 5) (cc := .eq) (by decide) rfl
theorem g261_59 : rg Z d rx_m261 59 L S (rz_mk h ι, w) = rg Z d rx_m261 60 L (.long 0 :: S) (rz_mk h ι, w) := rz_s1 fun _ => rfl
theorem g261_60 : rg Z d rx_m261 60 L [.long q] (rz_mk h ι, w) = some (.inl (some (.long q)), (rz_mk h ι, w)) := rz_r1 fun _ => rfl
theorem g261_61 : rg Z d rx_m261 61 L S (rz_mk h ι, w) = rg Z d rx_m261 62 L (.int 0 :: S) (rz_mk h ι, w) := rz_s1 fun _ => rfl
theorem g261_62 : rg Z d rx_m261 62 [l0, l1, l2, l3, some (.int z), l5, l6, l7, l8, l9, l10, l11, l12, l13, l14] (.int x :: S) (rz_mk h ι, w) = rg Z d rx_m261 64 [l0, l1, l2, l3, some (.int z), some (.int x), l6, l7, l8, l9, l10, l11, l12, l13, l14] S (rz_mk h ι, w) := rz_s1 fun _ => rfl
theorem g261_64 : rg Z d rx_m261 64 [l0, l1, l2, l3, l4, some (.int x), l6, l7, l8, l9, l10, l11, l12, l13, l14] S (rz_mk h ι, w) = rg Z d rx_m261 66 [l0, l1, l2, l3, l4, some (.int x), l6, l7, l8, l9, l10, l11, l12, l13, l14] (.int x :: S) (rz_mk h ι, w) := rz_s1 fun _ => rfl
theorem g261_66 : rg Z d rx_m261 66 L S (rz_mk h ι, w) = rg Z d rx_m261 68 L (.int 14 :: S) (rz_mk h ι, w) := rz_s1 fun _ => rfl
theorem g261_68 : rg Z d rx_m261 68 L (.int y :: .int x :: S) (rz_mk h ι, w) = if x < y then rg Z d rx_m261 71 L S (rz_mk h ι, w) else rg Z d rx_m261 94 L S (rz_mk h ι, w) := rz_if2 (pc := 68) (t := 94) (off := 26) (cc := .ge) (by decide) rfl
theorem g261_71 : rg Z d rx_m261 71 [some (.ref a), l1, l2, l3, l4, l5, l6, l7, l8, l9, l10, l11, l12, l13, l14] S (rz_mk h ι, w) = rg Z d rx_m261 72 [some (.ref a), l1, l2, l3, l4, l5, l6, l7, l8, l9, l10, l11, l12, l13, l14] (.ref a :: S) (rz_mk h ι, w) := rz_s1 fun _ => rfl
theorem g261_72 (c : rz_fR h a 12 43) : rg Z d rx_m261 72 L (.ref a :: S) (rz_mk h ι, w) = rg Z d rx_m261 75 L (rz_rv h a 43 :: S) (rz_mk h ι, w) := rz_gR rfl (by decide) c
theorem g261_75 : rg Z d rx_m261 75 [l0, l1, l2, l3, l4, some (.int x), l6, l7, l8, l9, l10, l11, l12, l13, l14] S (rz_mk h ι, w) = rg Z d rx_m261 77 [l0, l1, l2, l3, l4, some (.int x), l6, l7, l8, l9, l10, l11, l12, l13, l14] (.int x :: S) (rz_mk h ι, w) := rz_s1 fun _ => rfl
theorem g261_77 : rg Z d rx_m261 77 [l0, l1, l2, l3, l4, some (.int x), l6, l7, l8, l9, l10, l11, l12, l13, l14] S (rz_mk h ι, w) = rg Z d rx_m261 79 [l0, l1, l2, l3, l4, some (.int x), l6, l7, l8, l9, l10, l11, l12, l13, l14] (.int x :: S) (rz_mk h ι, w) := rz_s1 fun _ => rfl
theorem g261_79 : rg Z d rx_m261 79 L (.int x :: S) (rz_mk h ι, w) = if x = 0 then rg Z d rx_m261 82 L S (rz_mk h ι, w) else rg Z d rx_m261 86 L S (rz_mk h ι, w) := rz_if1 (pc := 79) (t := 86) (off := 7) (cc := .ne) (by decide) rfl
theorem g261_82 : rg Z d rx_m261 82 L S (rz_mk h ι, w) = rg Z d rx_m261 83 L (.long 1 :: S) (rz_mk h ι, w) := rz_s1 fun _ => rfl
theorem g261_83 : rg Z d rx_m261 83 L S (rz_mk h ι, w) = rg Z d rx_m261 87 L S (rz_mk h ι, w) := rz_s1 fun _ => rfl
theorem g261_86 : rg Z d rx_m261 86 L S (rz_mk h ι, w) = rg Z d rx_m261 87 L (.long 0 :: S) (rz_mk h ι, w) := rz_s1 fun _ => rfl
theorem g261_87 {f : Nat → Value} {n : Nat} (c : h a = some (.inl (1, n, f))) (hi : rz_ix x n) (hz : Z.2.1 ≤ a) : rg Z d rx_m261 87 L (.long q :: .int x :: .ref a :: S) (rz_mk h ι, w) = rg Z d rx_m261 88 L S (rz_mk (rz_he h a x.toNatClampNeg (.long q)) ι, w) := rz_last rfl c hi hz
theorem g261_88 : rg Z d rx_m261 88 [l0, l1, l2, l3, some (.int z), some (.int x), l6, l7, l8, l9, l10, l11, l12, l13, l14] S (rz_mk h ι, w) = rg Z d rx_m261 91 [l0, l1, l2, l3, some (.int z), some (.int (x + 1)), l6, l7, l8, l9, l10, l11, l12, l13, l14] S (rz_mk h ι, w) := rz_s1 fun _ => rfl
theorem g261_91 : rg Z d rx_m261 91 L S (rz_mk h ι, w) = rg Z d rx_m261 64 L S (rz_mk h ι, w) := rz_s1 fun _ => rfl
theorem g261_94 : rg Z d rx_m261 94 L S (rz_mk h ι, w) = rg Z d rx_m261 95 L (.int 0 :: S) (rz_mk h ι, w) := rz_s1 fun _ => rfl
theorem g261_95 : rg Z d rx_m261 95 [l0, l1, l2, l3, some (.int z), l5, l6, l7, l8, l9, l10, l11, l12, l13, l14] (.int x :: S) (rz_mk h ι, w) = rg Z d rx_m261 97 [l0, l1, l2, l3, some (.int z), some (.int x), l6, l7, l8, l9, l10, l11, l12, l13, l14] S (rz_mk h ι, w) := rz_s1 fun _ => rfl
theorem g261_97 : rg Z d rx_m261 97 [l0, l1, l2, l3, l4, some (.int x), l6, l7, l8, l9, l10, l11, l12, l13, l14] S (rz_mk h ι, w) = rg Z d rx_m261 99 [l0, l1, l2, l3, l4, some (.int x), l6, l7, l8, l9, l10, l11, l12, l13, l14] (.int x :: S) (rz_mk h ι, w) := rz_s1 fun _ => rfl
theorem g261_99 : rg Z d rx_m261 99 [l0, some (.int x), l2, l3, l4, l5, l6, l7, l8, l9, l10, l11, l12, l13, l14] S (rz_mk h ι, w) = rg Z d rx_m261 100 [l0, some (.int x), l2, l3, l4, l5, l6, l7, l8, l9, l10, l11, l12, l13, l14] (.int x :: S) (rz_mk h ι, w) := rz_s1 fun _ => rfl
theorem g261_100 : rg Z d rx_m261 100 L (.int y :: .int x :: S) (rz_mk h ι, w) = if x < y then rg Z d rx_m261 103 L S (rz_mk h ι, w) else rg Z d rx_m261 166 L S (rz_mk h ι, w) := rz_if2 (pc := 100) (t := 166) (off := 66) (cc := .ge) (by decide) rfl
theorem g261_103 : rg Z d rx_m261 103 L S (rz_mk h ι, w) = rg Z d rx_m261 105 L (.int 13 :: S) (rz_mk h ι, w) := rz_s1 fun _ => rfl
theorem g261_105 : rg Z d rx_m261 105 [l0, l1, l2, l3, l4, some (.int z), l6, l7, l8, l9, l10, l11, l12, l13, l14] (.int x :: S) (rz_mk h ι, w) = rg Z d rx_m261 107 [l0, l1, l2, l3, l4, some (.int z), some (.int x), l7, l8, l9, l10, l11, l12, l13, l14] S (rz_mk h ι, w) := rz_s1 fun _ => rfl
theorem g261_107 : rg Z d rx_m261 107 [l0, l1, l2, l3, l4, l5, some (.int x), l7, l8, l9, l10, l11, l12, l13, l14] S (rz_mk h ι, w) = rg Z d rx_m261 109 [l0, l1, l2, l3, l4, l5, some (.int x), l7, l8, l9, l10, l11, l12, l13, l14] (.int x :: S) (rz_mk h ι, w) := rz_s1 fun _ => rfl
theorem g261_109 : rg Z d rx_m261 109 L (.int x :: S) (rz_mk h ι, w) = if x < 0 then rg Z d rx_m261 160 L S (rz_mk h ι, w) else rg Z d rx_m261 112 L S (rz_mk h ι, w) := rz_if1 (pc := 109) (t := 160) (off := 51) (cc := .lt) (by decide) rfl
theorem g261_112 : rg Z d rx_m261 112 [some (.ref a), l1, l2, l3, l4, l5, l6, l7, l8, l9, l10, l11, l12, l13, l14] S (rz_mk h ι, w) = rg Z d rx_m261 113 [some (.ref a), l1, l2, l3, l4, l5, l6, l7, l8, l9, l10, l11, l12, l13, l14] (.ref a :: S) (rz_mk h ι, w) := rz_s1 fun _ => rfl
theorem g261_113 (c : rz_fR h a 12 43) : rg Z d rx_m261 113 L (.ref a :: S) (rz_mk h ι, w) = rg Z d rx_m261 116 L (rz_rv h a 43 :: S) (rz_mk h ι, w) := rz_gR rfl (by decide) c
theorem g261_116 : rg Z d rx_m261 116 [l0, l1, l2, l3, l4, l5, some (.int x), l7, l8, l9, l10, l11, l12, l13, l14] S (rz_mk h ι, w) = rg Z d rx_m261 118 [l0, l1, l2, l3, l4, l5, some (.int x), l7, l8, l9, l10, l11, l12, l13, l14] (.int x :: S) (rz_mk h ι, w) := rz_s1 fun _ => rfl
theorem g261_118 : rg Z d rx_m261 118 [some (.ref a), l1, l2, l3, l4, l5, l6, l7, l8, l9, l10, l11, l12, l13, l14] S (rz_mk h ι, w) = rg Z d rx_m261 119 [some (.ref a), l1, l2, l3, l4, l5, l6, l7, l8, l9, l10, l11, l12, l13, l14] (.ref a :: S) (rz_mk h ι, w) := rz_s1 fun _ => rfl
theorem g261_119 (c : rz_fR h a 12 43) : rg Z d rx_m261 119 L (.ref a :: S) (rz_mk h ι, w) = rg Z d rx_m261 122 L (rz_rv h a 43 :: S) (rz_mk h ι, w) := rz_gR rfl (by decide) c
theorem g261_122 : rg Z d rx_m261 122 [l0, l1, l2, l3, l4, l5, some (.int x), l7, l8, l9, l10, l11, l12, l13, l14] S (rz_mk h ι, w) = rg Z d rx_m261 124 [l0, l1, l2, l3, l4, l5, some (.int x), l7, l8, l9, l10, l11, l12, l13, l14] (.int x :: S) (rz_mk h ι, w) := rz_s1 fun _ => rfl
theorem g261_124 {f : Nat → Int64} {n : Nat} (c : h a = some (.inl (1, n, fun i => .long (f i)))) (hi : rz_ix x n) : rg Z d rx_m261 124 L (.int x :: .ref a :: S) (rz_mk h ι, w) = rg Z d rx_m261 125 L (.long (f x.toNatClampNeg) :: S) (rz_mk h ι, w) := rz_lald rfl c hi
theorem g261_125 : rg Z d rx_m261 125 L S (rz_mk h ι, w) = rg Z d rx_m261 127 L (.int 16 :: S) (rz_mk h ι, w) := rz_s1 fun _ => rfl
theorem g261_127 : rg Z d rx_m261 127 [l0, l1, l2, some (.int x), l4, l5, l6, l7, l8, l9, l10, l11, l12, l13, l14] S (rz_mk h ι, w) = rg Z d rx_m261 128 [l0, l1, l2, some (.int x), l4, l5, l6, l7, l8, l9, l10, l11, l12, l13, l14] (.int x :: S) (rz_mk h ι, w) := rz_s1 fun _ => rfl
theorem g261_128 : rg Z d rx_m261 128 L (.int y :: .int x :: S) (rz_mk h ι, w) = rg Z d rx_m261 129 L (.int (x - y) :: S) (rz_mk h ι, w) := rz_s1 fun _ => rfl
theorem g261_129 : rg Z d rx_m261 129 L (.int x :: S) (rz_mk h ι, w) = rg Z d rx_m261 130 L (.long x.toInt64 :: S) (rz_mk h ι, w) := rz_s1 fun _ => rfl
theorem g261_130 : rg Z d rx_m261 130 L (.long q :: .long p :: S) (rz_mk h ι, w) = rg Z d rx_m261 131 L (.long (p * q) :: S) (rz_mk h ι, w) := rz_s1 fun _ => rfl
theorem g261_131 : rg Z d rx_m261 131 [l0, l1, l2, l3, l4, l5, some (.int x), l7, l8, l9, l10, l11, l12, l13, l14] S (rz_mk h ι, w) = rg Z d rx_m261 133 [l0, l1, l2, l3, l4, l5, some (.int x), l7, l8, l9, l10, l11, l12, l13, l14] (.int x :: S) (rz_mk h ι, w) := rz_s1 fun _ => rfl
theorem g261_133 : rg Z d rx_m261 133 L (.int x :: S) (rz_mk h ι, w) = if 0 < x then rg Z d rx_m261 136 L S (rz_mk h ι, w) else rg Z d rx_m261 151 L S (rz_mk h ι, w) := rz_if1 (pc := 133) (t := 151) (off := 18) (cc := .le) (by decide) rfl
theorem g261_136 : rg Z d rx_m261 136 [some (.ref a), l1, l2, l3, l4, l5, l6, l7, l8, l9, l10, l11, l12, l13, l14] S (rz_mk h ι, w) = rg Z d rx_m261 137 [some (.ref a), l1, l2, l3, l4, l5, l6, l7, l8, l9, l10, l11, l12, l13, l14] (.ref a :: S) (rz_mk h ι, w) := rz_s1 fun _ => rfl
theorem g261_137 (c : rz_fR h a 12 43) : rg Z d rx_m261 137 L (.ref a :: S) (rz_mk h ι, w) = rg Z d rx_m261 140 L (rz_rv h a 43 :: S) (rz_mk h ι, w) := rz_gR rfl (by decide) c
theorem g261_140 : rg Z d rx_m261 140 [l0, l1, l2, l3, l4, l5, some (.int x), l7, l8, l9, l10, l11, l12, l13, l14] S (rz_mk h ι, w) = rg Z d rx_m261 142 [l0, l1, l2, l3, l4, l5, some (.int x), l7, l8, l9, l10, l11, l12, l13, l14] (.int x :: S) (rz_mk h ι, w) := rz_s1 fun _ => rfl
theorem g261_142 : rg Z d rx_m261 142 L S (rz_mk h ι, w) = rg Z d rx_m261 143 L (.int 1 :: S) (rz_mk h ι, w) := rz_s1 fun _ => rfl
theorem g261_143 : rg Z d rx_m261 143 L (.int y :: .int x :: S) (rz_mk h ι, w) = rg Z d rx_m261 144 L (.int (x - y) :: S) (rz_mk h ι, w) := rz_s1 fun _ => rfl
theorem g261_144 {f : Nat → Int64} {n : Nat} (c : h a = some (.inl (1, n, fun i => .long (f i)))) (hi : rz_ix x n) : rg Z d rx_m261 144 L (.int x :: .ref a :: S) (rz_mk h ι, w) = rg Z d rx_m261 145 L (.long (f x.toNatClampNeg) :: S) (rz_mk h ι, w) := rz_lald rfl c hi
theorem g261_145 : rg Z d rx_m261 145 [l0, l1, l2, some (.int x), l4, l5, l6, l7, l8, l9, l10, l11, l12, l13, l14] S (rz_mk h ι, w) = rg Z d rx_m261 146 [l0, l1, l2, some (.int x), l4, l5, l6, l7, l8, l9, l10, l11, l12, l13, l14] (.int x :: S) (rz_mk h ι, w) := rz_s1 fun _ => rfl
theorem g261_146 : rg Z d rx_m261 146 L (.int x :: S) (rz_mk h ι, w) = rg Z d rx_m261 147 L (.long x.toInt64 :: S) (rz_mk h ι, w) := rz_s1 fun _ => rfl
theorem g261_147 : rg Z d rx_m261 147 L (.long q :: .long p :: S) (rz_mk h ι, w) = rg Z d rx_m261 148 L (.long (p * q) :: S) (rz_mk h ι, w) := rz_s1 fun _ => rfl
theorem g261_148 : rg Z d rx_m261 148 L S (rz_mk h ι, w) = rg Z d rx_m261 152 L S (rz_mk h ι, w) := rz_s1 fun _ => rfl
theorem g261_151 : rg Z d rx_m261 151 L S (rz_mk h ι, w) = rg Z d rx_m261 152 L (.long 0 :: S) (rz_mk h ι, w) := rz_s1 fun _ => rfl
theorem g261_152 : rg Z d rx_m261 152 L (.long q :: .long p :: S) (rz_mk h ι, w) = rg Z d rx_m261 153 L (.long (p + q) :: S) (rz_mk h ι, w) := rz_s1 fun _ => rfl
theorem g261_153 {f : Nat → Value} {n : Nat} (c : h a = some (.inl (1, n, f))) (hi : rz_ix x n) (hz : Z.2.1 ≤ a) : rg Z d rx_m261 153 L (.long q :: .int x :: .ref a :: S) (rz_mk h ι, w) = rg Z d rx_m261 154 L S (rz_mk (rz_he h a x.toNatClampNeg (.long q)) ι, w) := rz_last rfl c hi hz
theorem g261_154 : rg Z d rx_m261 154 [l0, l1, l2, l3, l4, some (.int z), some (.int x), l7, l8, l9, l10, l11, l12, l13, l14] S (rz_mk h ι, w) = rg Z d rx_m261 157 [l0, l1, l2, l3, l4, some (.int z), some (.int (x + (-1))), l7, l8, l9, l10, l11, l12, l13, l14] S (rz_mk h ι, w) := rz_s1 fun _ => rfl
theorem g261_157 : rg Z d rx_m261 157 L S (rz_mk h ι, w) = rg Z d rx_m261 107 L S (rz_mk h ι, w) := rz_s1 fun _ => rfl
theorem g261_160 : rg Z d rx_m261 160 [l0, l1, l2, l3, some (.int z), some (.int x), l6, l7, l8, l9, l10, l11, l12, l13, l14] S (rz_mk h ι, w) = rg Z d rx_m261 163 [l0, l1, l2, l3, some (.int z), some (.int (x + 1)), l6, l7, l8, l9, l10, l11, l12, l13, l14] S (rz_mk h ι, w) := rz_s1 fun _ => rfl
theorem g261_163 : rg Z d rx_m261 163 L S (rz_mk h ι, w) = rg Z d rx_m261 97 L S (rz_mk h ι, w) := rz_s1 fun _ => rfl
theorem g261_166 : rg Z d rx_m261 166 L S (rz_mk h ι, w) = rg Z d rx_m261 167 L (.long 0 :: S) (rz_mk h ι, w) := rz_s1 fun _ => rfl
theorem g261_167 : rg Z d rx_m261 167 [l0, l1, l2, l3, some (.int z), l5, l6, l7, l8, l9, l10, l11, l12, l13, l14] (.long q :: S) (rz_mk h ι, w) = rg Z d rx_m261 169 [l0, l1, l2, l3, some (.int z), some (.long q), none, l7, l8, l9, l10, l11, l12, l13, l14] S (rz_mk h ι, w) := rz_s1 fun _ => rfl
theorem g261_169 : rg Z d rx_m261 169 L S (rz_mk h ι, w) = rg Z d rx_m261 170 L (.long 1 :: S) (rz_mk h ι, w) := rz_s1 fun _ => rfl
theorem g261_170 : rg Z d rx_m261 170 L S (rz_mk h ι, w) = rg Z d rx_m261 171 L (.int 4 :: S) (rz_mk h ι, w) := rz_s1 fun _ => rfl
theorem g261_171 : rg Z d rx_m261 171 [l0, some (.int x), l2, l3, l4, l5, l6, l7, l8, l9, l10, l11, l12, l13, l14] S (rz_mk h ι, w) = rg Z d rx_m261 172 [l0, some (.int x), l2, l3, l4, l5, l6, l7, l8, l9, l10, l11, l12, l13, l14] (.int x :: S) (rz_mk h ι, w) := rz_s1 fun _ => rfl
theorem g261_172 : rg Z d rx_m261 172 L (.int y :: .int x :: S) (rz_mk h ι, w) = rg Z d rx_m261 173 L (.int (x * y) :: S) (rz_mk h ι, w) := rz_s1 fun _ => rfl
theorem g261_173 : rg Z d rx_m261 173 L (.int x :: .long p :: S) (rz_mk h ι, w) = rg Z d rx_m261 174 L (.long (p <<< (x.toInt64 &&& 63)) :: S) (rz_mk h ι, w) := rz_s1 fun _ => rfl
theorem g261_174 : rg Z d rx_m261 174 [l0, l1, l2, l3, l4, l5, none, l7, l8, l9, l10, l11, l12, l13, l14] (.long q :: S) (rz_mk h ι, w) = rg Z d rx_m261 176 [l0, l1, l2, l3, l4, l5, none, some (.long q), none, l9, l10, l11, l12, l13, l14] S (rz_mk h ι, w) := rz_s1 fun _ => rfl
theorem g261_176 : rg Z d rx_m261 176 [l0, l1, some (.int x), l3, l4, l5, l6, l7, l8, l9, l10, l11, l12, l13, l14] S (rz_mk h ι, w) = rg Z d rx_m261 177 [l0, l1, some (.int x), l3, l4, l5, l6, l7, l8, l9, l10, l11, l12, l13, l14] (.int x :: S) (rz_mk h ι, w) := rz_s1 fun _ => rfl
theorem g261_177 : rg Z d rx_m261 177 [l0, l1, l2, l3, l4, l5, l6, l7, none, l9, l10, l11, l12, l13, l14] (.int x :: S) (rz_mk h ι, w) = rg Z d rx_m261 179 [l0, l1, l2, l3, l4, l5, l6, l7, none, some (.int x), l10, l11, l12, l13, l14] S (rz_mk h ι, w) := rz_s1 fun _ => rfl
theorem g261_179 : rg Z d rx_m261 179 [l0, l1, l2, l3, l4, l5, l6, l7, l8, some (.int x), l10, l11, l12, l13, l14] S (rz_mk h ι, w) = rg Z d rx_m261 181 [l0, l1, l2, l3, l4, l5, l6, l7, l8, some (.int x), l10, l11, l12, l13, l14] (.int x :: S) (rz_mk h ι, w) := rz_s1 fun _ => rfl
theorem g261_181 : rg Z d rx_m261 181 L S (rz_mk h ι, w) = rg Z d rx_m261 183 L (.int 14 :: S) (rz_mk h ι, w) := rz_s1 fun _ => rfl
theorem g261_183 : rg Z d rx_m261 183 L (.int y :: .int x :: S) (rz_mk h ι, w) = if x < y then rg Z d rx_m261 186 L S (rz_mk h ι, w) else rg Z d rx_m261 204 L S (rz_mk h ι, w) := rz_if2 (pc := 183) (t := 204) (off := 21) (cc := .ge) (by decide) rfl
theorem g261_186 : rg Z d rx_m261 186 [l0, l1, l2, l3, l4, some (.long q), l6, l7, l8, l9, l10, l11, l12, l13, l14] S (rz_mk h ι, w) = rg Z d rx_m261 188 [l0, l1, l2, l3, l4, some (.long q), l6, l7, l8, l9, l10, l11, l12, l13, l14] (.long q :: S) (rz_mk h ι, w) := rz_s1 fun _ => rfl
theorem g261_188 : rg Z d rx_m261 188 [some (.ref a), l1, l2, l3, l4, l5, l6, l7, l8, l9, l10, l11, l12, l13, l14] S (rz_mk h ι, w) = rg Z d rx_m261 189 [some (.ref a), l1, l2, l3, l4, l5, l6, l7, l8, l9, l10, l11, l12, l13, l14] (.ref a :: S) (rz_mk h ι, w) := rz_s1 fun _ => rfl
theorem g261_189 (c : rz_fR h a 12 43) : rg Z d rx_m261 189 L (.ref a :: S) (rz_mk h ι, w) = rg Z d rx_m261 192 L (rz_rv h a 43 :: S) (rz_mk h ι, w) := rz_gR rfl (by decide) c
theorem g261_192 : rg Z d rx_m261 192 [l0, l1, l2, l3, l4, l5, l6, l7, l8, some (.int x), l10, l11, l12, l13, l14] S (rz_mk h ι, w) = rg Z d rx_m261 194 [l0, l1, l2, l3, l4, l5, l6, l7, l8, some (.int x), l10, l11, l12, l13, l14] (.int x :: S) (rz_mk h ι, w) := rz_s1 fun _ => rfl
theorem g261_194 {f : Nat → Int64} {n : Nat} (c : h a = some (.inl (1, n, fun i => .long (f i)))) (hi : rz_ix x n) : rg Z d rx_m261 194 L (.int x :: .ref a :: S) (rz_mk h ι, w) = rg Z d rx_m261 195 L (.long (f x.toNatClampNeg) :: S) (rz_mk h ι, w) := rz_lald rfl c hi
theorem g261_195 : rg Z d rx_m261 195 L (.long q :: .long p :: S) (rz_mk h ι, w) = rg Z d rx_m261 196 L (.long (p + q) :: S) (rz_mk h ι, w) := rz_s1 fun _ => rfl
theorem g261_196 : rg Z d rx_m261 196 [l0, l1, l2, l3, some (.int z), l5, l6, l7, l8, l9, l10, l11, l12, l13, l14] (.long q :: S) (rz_mk h ι, w) = rg Z d rx_m261 198 [l0, l1, l2, l3, some (.int z), some (.long q), none, l7, l8, l9, l10, l11, l12, l13, l14] S (rz_mk h ι, w) := rz_s1 fun _ => rfl
theorem g261_198 : rg Z d rx_m261 198 [l0, l1, l2, l3, l4, l5, l6, l7, none, some (.int x), l10, l11, l12, l13, l14] S (rz_mk h ι, w) = rg Z d rx_m261 201 [l0, l1, l2, l3, l4, l5, l6, l7, none, some (.int (x + 1)), l10, l11, l12, l13, l14] S (rz_mk h ι, w) := rz_s1 fun _ => rfl
theorem g261_201 : rg Z d rx_m261 201 L S (rz_mk h ι, w) = rg Z d rx_m261 179 L S (rz_mk h ι, w) := rz_s1 fun _ => rfl
theorem g261_204 : rg Z d rx_m261 204 [l0, l1, l2, l3, l4, l5, l6, some (.long q), l8, l9, l10, l11, l12, l13, l14] S (rz_mk h ι, w) = rg Z d rx_m261 206 [l0, l1, l2, l3, l4, l5, l6, some (.long q), l8, l9, l10, l11, l12, l13, l14] (.long q :: S) (rz_mk h ι, w) := rz_s1 fun _ => rfl
theorem g261_206 : rg Z d rx_m261 206 [l0, l1, l2, l3, l4, l5, l6, l7, none, l9, l10, l11, l12, l13, l14] (.long q :: S) (rz_mk h ι, w) = rg Z d rx_m261 208 [l0, l1, l2, l3, l4, l5, l6, l7, none, some (.long q), none, l11, l12, l13, l14] S (rz_mk h ι, w) := rz_s1 fun _ => rfl
theorem g261_208 : rg Z d rx_m261 208 [l0, l1, l2, l3, l4, some (.long q), l6, l7, l8, l9, l10, l11, l12, l13, l14] S (rz_mk h ι, w) = rg Z d rx_m261 210 [l0, l1, l2, l3, l4, some (.long q), l6, l7, l8, l9, l10, l11, l12, l13, l14] (.long q :: S) (rz_mk h ι, w) := rz_s1 fun _ => rfl
theorem g261_210 : rg Z d rx_m261 210 [l0, l1, l2, l3, l4, l5, l6, l7, l8, l9, none, l11, l12, l13, l14] (.long q :: S) (rz_mk h ι, w) = rg Z d rx_m261 212 [l0, l1, l2, l3, l4, l5, l6, l7, l8, l9, none, some (.long q), none, l13, l14] S (rz_mk h ι, w) := rz_s1 fun _ => rfl
theorem g261_212 : rg Z d rx_m261 212 [l0, l1, l2, l3, l4, l5, l6, l7, l8, l9, l10, some (.long q), l12, l13, l14] S (rz_mk h ι, w) = rg Z d rx_m261 214 [l0, l1, l2, l3, l4, l5, l6, l7, l8, l9, l10, some (.long q), l12, l13, l14] (.long q :: S) (rz_mk h ι, w) := rz_s1 fun _ => rfl
theorem g261_214 : rg Z d rx_m261 214 L S (rz_mk h ι, w) = rg Z d rx_m261 215 L (.long 0 :: S) (rz_mk h ι, w) := rz_s1 fun _ => rfl
theorem g261_215 : rg Z d rx_m261 215 L (.long q :: .long p :: S) (rz_mk h ι, w) = rg Z d rx_m261 216 L (.int (lg_cmp p q) :: S) (rz_mk h ι, w) := rz_s1 fun _ => rfl
theorem g261_216 : rg Z d rx_m261 216 L (.int x :: S) (rz_mk h ι, w) = if x = 0 then rg Z d rx_m261 237 L S (rz_mk h ι, w) else rg Z d rx_m261 219 L S (rz_mk h ι, w) := rz_if1 (pc := 216) (t := 237) (off := 21) (cc := .eq) (by decide) rfl
theorem g261_219 : rg Z d rx_m261 219 [l0, l1, l2, l3, l4, l5, l6, l7, l8, some (.long q), l10, l11, l12, l13, l14] S (rz_mk h ι, w) = rg Z d rx_m261 221 [l0, l1, l2, l3, l4, l5, l6, l7, l8, some (.long q), l10, l11, l12, l13, l14] (.long q :: S) (rz_mk h ι, w) := rz_s1 fun _ => rfl
theorem g261_221 : rg Z d rx_m261 221 [l0, l1, l2, l3, l4, l5, l6, l7, l8, l9, l10, some (.long q), l12, l13, l14] S (rz_mk h ι, w) = rg Z d rx_m261 223 [l0, l1, l2, l3, l4, l5, l6, l7, l8, l9, l10, some (.long q), l12, l13, l14] (.long q :: S) (rz_mk h ι, w) := rz_s1 fun _ => rfl
theorem g261_223 (c : ¬ q = 0) : rg Z d rx_m261 223 L (.long q :: .long p :: S) (rz_mk h ι, w) = rg Z d rx_m261 224 L (.long (p - p / q * q) :: S) (rz_mk h ι, w) := rz_lrem rfl c
theorem g261_224 : rg Z d rx_m261 224 [l0, l1, l2, l3, l4, l5, l6, l7, l8, l9, l10, l11, none, l13, l14] (.long q :: S) (rz_mk h ι, w) = rg Z d rx_m261 226 [l0, l1, l2, l3, l4, l5, l6, l7, l8, l9, l10, l11, none, some (.long q), none] S (rz_mk h ι, w) := rz_s1 fun _ => rfl
theorem g261_226 : rg Z d rx_m261 226 [l0, l1, l2, l3, l4, l5, l6, l7, l8, l9, l10, some (.long q), l12, l13, l14] S (rz_mk h ι, w) = rg Z d rx_m261 228 [l0, l1, l2, l3, l4, l5, l6, l7, l8, l9, l10, some (.long q), l12, l13, l14] (.long q :: S) (rz_mk h ι, w) := rz_s1 fun _ => rfl
theorem g261_228 : rg Z d rx_m261 228 [l0, l1, l2, l3, l4, l5, l6, l7, none, l9, l10, l11, l12, l13, l14] (.long q :: S) (rz_mk h ι, w) = rg Z d rx_m261 230 [l0, l1, l2, l3, l4, l5, l6, l7, none, some (.long q), none, l11, l12, l13, l14] S (rz_mk h ι, w) := rz_s1 fun _ => rfl
theorem g261_230 : rg Z d rx_m261 230 [l0, l1, l2, l3, l4, l5, l6, l7, l8, l9, l10, l11, l12, some (.long q), l14] S (rz_mk h ι, w) = rg Z d rx_m261 232 [l0, l1, l2, l3, l4, l5, l6, l7, l8, l9, l10, l11, l12, some (.long q), l14] (.long q :: S) (rz_mk h ι, w) := rz_s1 fun _ => rfl
theorem g261_232 : rg Z d rx_m261 232 [l0, l1, l2, l3, l4, l5, l6, l7, l8, l9, none, l11, l12, l13, l14] (.long q :: S) (rz_mk h ι, w) = rg Z d rx_m261 234 [l0, l1, l2, l3, l4, l5, l6, l7, l8, l9, none, some (.long q), none, l13, l14] S (rz_mk h ι, w) := rz_s1 fun _ => rfl
theorem g261_234 : rg Z d rx_m261 234 L S (rz_mk h ι, w) = rg Z d rx_m261 212 L S (rz_mk h ι, w) := rz_s1 fun _ => rfl
theorem g261_237 : rg Z d rx_m261 237 [l0, l1, l2, l3, some (.int x), l5, l6, l7, l8, l9, l10, l11, l12, l13, l14] S (rz_mk h ι, w) = rg Z d rx_m261 239 [l0, l1, l2, l3, some (.int x), l5, l6, l7, l8, l9, l10, l11, l12, l13, l14] (.int x :: S) (rz_mk h ι, w) := rz_s1 fun _ => rfl
theorem g261_239 : rg Z d rx_m261 239 L (.int x :: S) (rz_mk h ι, w) = if x = 0 then rg Z d rx_m261 242 L S (rz_mk h ι, w) else rg Z d rx_m261 250 L S (rz_mk h ι, w) := rz_if1 (pc := 239) (t := 250) (off := 11) (cc := .ne) (by decide) rfl
theorem g261_242 : rg Z d rx_m261 242 [l0, l1, l2, l3, l4, some (.long q), l6, l7, l8, l9, l10, l11, l12, l13, l14] S (rz_mk h ι, w) = rg Z d rx_m261 244 [l0, l1, l2, l3, l4, some (.long q), l6, l7, l8, l9, l10, l11, l12, l13, l14] (.long q :: S) (rz_mk h ι, w) := rz_s1 fun _ => rfl
theorem g261_244 : rg Z d rx_m261 244 [l0, l1, l2, l3, l4, l5, l6, l7, l8, some (.long q), l10, l11, l12, l13, l14] S (rz_mk h ι, w) = rg Z d rx_m261 246 [l0, l1, l2, l3, l4, l5, l6, l7, l8, some (.long q), l10, l11, l12, l13, l14] (.long q :: S) (rz_mk h ι, w) := rz_s1 fun _ => rfl
theorem g261_246 (c : ¬ q = 0) : rg Z d rx_m261 246 L (.long q :: .long p :: S) (rz_mk h ι, w) = rg Z d rx_m261 247 L (.long (p / q) :: S) (rz_mk h ι, w) := rz_ldiv rfl c
theorem g261_247 : rg Z d rx_m261 247 L S (rz_mk h ι, w) = rg Z d rx_m261 255 L S (rz_mk h ι, w) := rz_s1 fun _ => rfl
theorem g261_250 : rg Z d rx_m261 250 [l0, l1, l2, l3, l4, l5, l6, some (.long q), l8, l9, l10, l11, l12, l13, l14] S (rz_mk h ι, w) = rg Z d rx_m261 252 [l0, l1, l2, l3, l4, l5, l6, some (.long q), l8, l9, l10, l11, l12, l13, l14] (.long q :: S) (rz_mk h ι, w) := rz_s1 fun _ => rfl
theorem g261_252 : rg Z d rx_m261 252 [l0, l1, l2, l3, l4, l5, l6, l7, l8, some (.long q), l10, l11, l12, l13, l14] S (rz_mk h ι, w) = rg Z d rx_m261 254 [l0, l1, l2, l3, l4, l5, l6, l7, l8, some (.long q), l10, l11, l12, l13, l14] (.long q :: S) (rz_mk h ι, w) := rz_s1 fun _ => rfl
theorem g261_254 (c : ¬ q = 0) : rg Z d rx_m261 254 L (.long q :: .long p :: S) (rz_mk h ι, w) = rg Z d rx_m261 255 L (.long (p / q) :: S) (rz_mk h ι, w) := rz_ldiv rfl c
theorem g261_255 : rg Z d rx_m261 255 L [.long q] (rz_mk h ι, w) = some (.inl (some (.long q)), (rz_mk h ι, w)) := rz_r1 fun _ => rfl
theorem e261 : rz_f Z (d + 1) 261 [.ref t0, .int s1, .int s2, .int s3, .int s4] σ = rg Z d rx_m261 0 [some (.ref t0), some (.int s1), some (.int s2), some (.int s3), some (.int s4), none, none, none, none, none, none, none, none, none, none] [] σ := rz_f_eq rfl (Nat.le_of_ble_eq_true rfl)
theorem g262_0 : rg Z d rx_m262 0 [some (.int x), l1, l2, l3] S (rz_mk h ι, w) = rg Z d rx_m262 1 [some (.int x), l1, l2, l3] (.int x :: S) (rz_mk h ι, w) := rz_s1 fun _ => rfl
theorem g262_1 : rg Z d rx_m262 1 [l0, some (.int x), l2, l3] S (rz_mk h ι, w) = rg Z d rx_m262 2 [l0, some (.int x), l2, l3] (.int x :: S) (rz_mk h ι, w) := rz_s1 fun _ => rfl
theorem g262_2 : rg Z d rx_m262 2 L (.int y :: .int x :: S) (rz_mk h ι, w) = if x = y then rg Z d rx_m262 5 L S (rz_mk h ι, w) else rg Z d rx_m262 21 L S (rz_mk h ι, w) := rz_if2 (pc := 2) (t := 21) (off := 19) (cc := .ne) (by decide) rfl
theorem g262_5 : rg Z d rx_m262 5 [l0, l1, some (.int x), l3] S (rz_mk h ι, w) = rg Z d rx_m262 6 [l0, l1, some (.int x), l3] (.int x :: S) (rz_mk h ι, w) := rz_s1 fun _ => rfl
theorem g262_6 : rg Z d rx_m262 6 L S (rz_mk h ι, w) = rg Z d rx_m262 7 L (.int 2 :: S) (rz_mk h ι, w) := rz_s1 fun _ => rfl
theorem g262_7 : rg Z d rx_m262 7 L (.int 2 :: .int x :: S) (rz_mk h ι, w) = rg Z d rx_m262 8 L (.int (x / 2) :: S) (rz_mk h ι, w) := rz_div rfl (by decide)
theorem g262_8 : rg Z d rx_m262 8 [some (.int x), l1, l2, l3] S (rz_mk h ι, w) = rg Z d rx_m262 9 [some (.int x), l1, l2, l3] (.int x :: S) (rz_mk h ι, w) := rz_s1 fun _ => rfl
theorem g262_9 : rg Z d rx_m262 9 L (.int x :: S) (rz_mk h ι, w) = if x = 0 then rg Z d rx_m262 12 L S (rz_mk h ι, w) else rg Z d rx_m262 16 L S (rz_mk h ι, w) := rz_if1 (pc := 9) (t := 16) (off := 7) (cc := .ne) (by decide) rfl
theorem g262_12 : rg Z d rx_m262 12 [l0, l1, l2, some (.int x)] S (rz_mk h ι, w) = rg Z d rx_m262 13 [l0, l1, l2, some (.int x)] (.int x :: S) (rz_mk h ι, w) := rz_s1 fun _ => rfl
theorem g262_13 : rg Z d rx_m262 13 L S (rz_mk h ι, w) = rg Z d rx_m262 17 L S (rz_mk h ι, w) := rz_s1 fun _ => rfl
theorem g262_16 : rg Z d rx_m262 16 L S (rz_mk h ι, w) = rg Z d rx_m262 17 L (.int 0 :: S) (rz_mk h ι, w) := rz_s1 fun _ => rfl
theorem g262_17 : rg Z d rx_m262 17 L (.int y :: .int x :: S) (rz_mk h ι, w) = rg Z d rx_m262 18 L (.int (x - y) :: S) (rz_mk h ι, w) := rz_s1 fun _ => rfl
theorem g262_18 : rg Z d rx_m262 18 L S (rz_mk h ι, w) = rg Z d rx_m262 32 L S (rz_mk h ι, w) := rz_s1 fun _ => rfl
theorem g262_21 : rg Z d rx_m262 21 [some (.int x), l1, l2, l3] S (rz_mk h ι, w) = rg Z d rx_m262 22 [some (.int x), l1, l2, l3] (.int x :: S) (rz_mk h ι, w) := rz_s1 fun _ => rfl
theorem g262_22 : rg Z d rx_m262 22 L (.int x :: S) (rz_mk h ι, w) = if x = 0 then rg Z d rx_m262 25 L S (rz_mk h ι, w) else rg Z d rx_m262 31 L S (rz_mk h ι, w) := rz_if1 (pc := 22) (t := 31) (off := 9) (cc := .ne) (by decide) rfl
theorem g262_25 : rg Z d rx_m262 25 [l0, l1, some (.int x), l3] S (rz_mk h ι, w) = rg Z d rx_m262 26 [l0, l1, some (.int x), l3] (.int x :: S) (rz_mk h ι, w) := rz_s1 fun _ => rfl
theorem g262_26 : rg Z d rx_m262 26 [l0, l1, l2, some (.int x)] S (rz_mk h ι, w) = rg Z d rx_m262 27 [l0, l1, l2, some (.int x)] (.int x :: S) (rz_mk h ι, w) := rz_s1 fun _ => rfl
theorem g262_27 : rg Z d rx_m262 27 L (.int y :: .int x :: S) (rz_mk h ι, w) = rg Z d rx_m262 28 L (.int (x - y) :: S) (rz_mk h ι, w) := rz_s1 fun _ => rfl
theorem g262_28 : rg Z d rx_m262 28 L S (rz_mk h ι, w) = rg Z d rx_m262 32 L S (rz_mk h ι, w) := rz_s1 fun _ => rfl
theorem g262_31 : rg Z d rx_m262 31 L S (rz_mk h ι, w) = rg Z d rx_m262 32 L (.int 0 :: S) (rz_mk h ι, w) := rz_s1 fun _ => rfl
theorem g262_32 : rg Z d rx_m262 32 L [.int x] (rz_mk h ι, w) = some (.inl (some (.int x)), (rz_mk h ι, w)) := rz_reti rfl rfl rfl
theorem e262 : rz_f Z (d + 1) 262 [.int s0, .int s1, .int s2, .int s3] σ = rg Z d rx_m262 0 [some (.int s0), some (.int s1), some (.int s2), some (.int s3)] [] σ := rz_f_eq rfl (Nat.le_of_ble_eq_true rfl)
theorem g263_0 : rg Z d rx_m263 0 [some (.int x), l1, l2, l3] S (rz_mk h ι, w) = rg Z d rx_m263 1 [some (.int x), l1, l2, l3] (.int x :: S) (rz_mk h ι, w) := rz_s1 fun _ => rfl
theorem g263_1 : rg Z d rx_m263 1 [l0, some (.int x), l2, l3] S (rz_mk h ι, w) = rg Z d rx_m263 2 [l0, some (.int x), l2, l3] (.int x :: S) (rz_mk h ι, w) := rz_s1 fun _ => rfl
theorem g263_2 : rg Z d rx_m263 2 [l0, l1, some (.int x), l3] S (rz_mk h ι, w) = rg Z d rx_m263 3 [l0, l1, some (.int x), l3] (.int x :: S) (rz_mk h ι, w) := rz_s1 fun _ => rfl
theorem g263_3 : rg Z d rx_m263 3 [l0, l1, l2, some (.int x)] S (rz_mk h ι, w) = rg Z d rx_m263 4 [l0, l1, l2, some (.int x)] (.int x :: S) (rz_mk h ι, w) := rz_s1 fun _ => rfl
theorem g263_4 : rg Z d rx_m263 4 L (v4 :: v3 :: v2 :: v1 :: []) (rz_mk h ι, w) = rz_k true (rz_f Z d 262 [v1, v2, v3, v4] (rz_mk h ι, w)) (fun v σ' => rg Z d rx_m263 7 L (v.toList ++ []) σ') := rz_cs (pc := 4) (n := 4) (mi := 262) (S := v4 :: v3 :: v2 :: v1 :: []) (rest := []) rfl rfl (Nat.le_of_ble_eq_true rfl) (Nat.le_of_ble_eq_true rfl)
theorem g263_7 : rg Z d rx_m263 7 L S (rz_mk h ι, w) = rg Z d rx_m263 8 L (.int 1 :: S) (rz_mk h ι, w) := rz_s1 fun _ => rfl
theorem g263_8 : rg Z d rx_m263 8 [some (.int x), l1, l2, l3] S (rz_mk h ι, w) = rg Z d rx_m263 9 [some (.int x), l1, l2, l3] (.int x :: S) (rz_mk h ι, w) := rz_s1 fun _ => rfl
theorem g263_9 : rg Z d rx_m263 9 L (.int y :: .int x :: S) (rz_mk h ι, w) = rg Z d rx_m263 10 L (.int (x - y) :: S) (rz_mk h ι, w) := rz_s1 fun _ => rfl
theorem g263_10 : rg Z d rx_m263 10 [l0, some (.int x), l2, l3] S (rz_mk h ι, w) = rg Z d rx_m263 11 [l0, some (.int x), l2, l3] (.int x :: S) (rz_mk h ι, w) := rz_s1 fun _ => rfl
theorem g263_11 : rg Z d rx_m263 11 [l0, l1, some (.int x), l3] S (rz_mk h ι, w) = rg Z d rx_m263 12 [l0, l1, some (.int x), l3] (.int x :: S) (rz_mk h ι, w) := rz_s1 fun _ => rfl
theorem g263_12 : rg Z d rx_m263 12 [l0, l1, l2, some (.int x)] S (rz_mk h ι, w) = rg Z d rx_m263 13 [l0, l1, l2, some (.int x)] (.int x :: S) (rz_mk h ι, w) := rz_s1 fun _ => rfl
theorem g263_13 : rg Z d rx_m263 13 L (v4 :: v3 :: v2 :: v1 :: [.int s0]) (rz_mk h ι, w) = rz_k true (rz_f Z d 262 [v1, v2, v3, v4] (rz_mk h ι, w)) (fun v σ' => rg Z d rx_m263 16 L (v.toList ++ [.int s0]) σ') := rz_cs (pc := 13) (n := 4) (mi := 262) (S := v4 :: v3 :: v2 :: v1 :: [.int s0]) (rest := [.int s0]) rfl rfl (Nat.le_of_ble_eq_true rfl) (Nat.le_of_ble_eq_true rfl)
theorem g263_16 : rg Z d rx_m263 16 L (.int y :: .int x :: S) (rz_mk h ι, w) = if x < y then rg Z d rx_m263 23 L S (rz_mk h ι, w) else rg Z d rx_m263 19 L S (rz_mk h ι, w) := rz_if2 (pc := 16) (t := 23) (off := 7) (cc := .lt) (by decide) rfl
theorem g263_19 : rg Z d rx_m263 19 L S (rz_mk h ι, w) = rg Z d rx_m263 20 L (.int 1 :: S) (rz_mk h ι, w) := rz_s1 fun _ => rfl
theorem g263_20 : rg Z d rx_m263 20 L S (rz_mk h ι, w) = rg Z d rx_m263 24 L S (rz_mk h ι, w) := rz_s1 fun _ => rfl
theorem g263_23 : rg Z d rx_m263 23 L S (rz_mk h ι, w) = rg Z d rx_m263 24 L (.int 0 :: S) (rz_mk h ι, w) := rz_s1 fun _ => rfl
theorem g263_24 (c : narrow .boolean (.int x) = .int x) : rg Z d rx_m263 24 L [.int x] (rz_mk h ι, w) = some (.inl (some (.int x)), (rz_mk h ι, w)) := rz_reti rfl rfl c
theorem e263 : rz_f Z (d + 1) 263 [.int s0, .int s1, .int s2, .int s3] σ = rg Z d rx_m263 0 [some (.int s0), some (.int s1), some (.int s2), some (.int s3)] [] σ := rz_f_eq rfl (Nat.le_of_ble_eq_true rfl)
theorem g264_0 : rg Z d rx_m264 0 [some (.ref a), l1, l2, l3, l4, l5, l6, l7, l8] S (rz_mk h ι, w) = rg Z d rx_m264 1 [some (.ref a), l1, l2, l3, l4, l5, l6, l7, l8] (.ref a :: S) (rz_mk h ι, w) := rz_s1 fun _ => rfl
theorem g264_1 : rg Z d rx_m264 1 L S (rz_mk h ι, w) = rg Z d rx_m264 2 L (.int 0 :: S) (rz_mk h ι, w) := rz_s1 fun _ => rfl
theorem g264_2 (c : rz_fI h a 12 0) (hz : Z.2.1 ≤ a) : rg Z d rx_m264 2 L (.int x :: .ref a :: S) (rz_mk h ι, w) = rg Z d rx_m264 5 L S (rz_mk h (rz_up ι a 0 x), w) := rz_pI rfl c hz
theorem g264_5 : rg Z d rx_m264 5 [some (.ref a), l1, l2, l3, l4, l5, l6, l7, l8] S (rz_mk h ι, w) = rg Z d rx_m264 6 [some (.ref a), l1, l2, l3, l4, l5, l6, l7, l8] (.ref a :: S) (rz_mk h ι, w) := rz_s1 fun _ => rfl
theorem g264_6 : rg Z d rx_m264 6 [l0, some (.int x), l2, l3, l4, l5, l6, l7, l8] S (rz_mk h ι, w) = rg Z d rx_m264 7 [l0, some (.int x), l2, l3, l4, l5, l6, l7, l8] (.int x :: S) (rz_mk h ι, w) := rz_s1 fun _ => rfl
theorem g264_7 : rg Z d rx_m264 7 L S (rz_mk h ι, w) = rg Z d rx_m264 8 L (.int 0 :: S) (rz_mk h ι, w) := rz_s1 fun _ => rfl
theorem g264_8 : rg Z d rx_m264 8 L S (rz_mk h ι, w) = rg Z d rx_m264 10 L (.int 99 :: S) (rz_mk h ι, w) := rz_s1 fun _ => rfl
theorem g264_10 : rg Z d rx_m264 10 L (v3 :: v2 :: v1 :: [.ref t0]) (rz_mk h ι, w) = rz_k true (rz_f Z d 175 [v1, v2, v3] (rz_mk h ι, w)) (fun v σ' => rg Z d rx_m264 13 L (v.toList ++ [.ref t0]) σ') := rz_cs (pc := 10) (n := 3) (mi := 175) (S := v3 :: v2 :: v1 :: [.ref t0]) (rest := [.ref t0]) rfl rfl (Nat.le_of_ble_eq_true rfl) (Nat.le_of_ble_eq_true rfl)
theorem g264_13 : rg Z d rx_m264 13 L (.int x :: S) (rz_mk h ι, w) = if x = 0 then rg Z d rx_m264 35 L S (rz_mk h ι, w) else rg Z d rx_m264 16 L S (rz_mk h ι, w) := rz_if1 (pc := 13) (t := 35) (off := 22) (cc := .eq) (by decide) rfl
theorem g264_16 : rg Z d rx_m264 16 [l0, l1, some (.int x), l3, l4, l5, l6, l7, l8] S (rz_mk h ι, w) = rg Z d rx_m264 17 [l0, l1, some (.int x), l3, l4, l5, l6, l7, l8] (.int x :: S) (rz_mk h ι, w) := rz_s1 fun _ => rfl
theorem g264_17 : rg Z d rx_m264 17 L S (rz_mk h ι, w) = rg Z d rx_m264 18 L (.int 0 :: S) (rz_mk h ι, w) := rz_s1 fun _ => rfl
theorem g264_18 : rg Z d rx_m264 18 L S (rz_mk h ι, w) = rg Z d rx_m264 20 L (.int 99 :: S) (rz_mk h ι, w) := rz_s1 fun _ => rfl
theorem g264_20 : rg Z d rx_m264 20 L (v3 :: v2 :: v1 :: [.ref t0]) (rz_mk h ι, w) = rz_k true (rz_f Z d 175 [v1, v2, v3] (rz_mk h ι, w)) (fun v σ' => rg Z d rx_m264 23 L (v.toList ++ [.ref t0]) σ') := rz_cs (pc := 20) (n := 3) (mi := 175) (S := v3 :: v2 :: v1 :: [.ref t0]) (rest := [.ref t0]) rfl rfl (Nat.le_of_ble_eq_true rfl) (Nat.le_of_ble_eq_true rfl)
theorem g264_23 : rg Z d rx_m264 23 L (.int x :: S) (rz_mk h ι, w) = if x = 0 then rg Z d rx_m264 35 L S (rz_mk h ι, w) else rg Z d rx_m264 26 L S (rz_mk h ι, w) := rz_if1 (pc := 23) (t := 35) (off := 12) (cc := .eq) (by decide) rfl
theorem g264_26 : rg Z d rx_m264 26 [l0, l1, l2, some (.int x), l4, l5, l6, l7, l8] S (rz_mk h ι, w) = rg Z d rx_m264 27 [l0, l1, l2, some (.int x), l4, l5, l6, l7, l8] (.int x :: S) (rz_mk h ι, w) := rz_s1 fun _ => rfl
theorem g264_27 : rg Z d rx_m264 27 L S (rz_mk h ι, w) = rg Z d rx_m264 28 L (.int 0 :: S) (rz_mk h ι, w) := rz_s1 fun _ => rfl
theorem g264_28 : rg Z d rx_m264 28 L S (rz_mk h ι, w) = rg Z d rx_m264 29 L (.int 2 :: S) (rz_mk h ι, w) := rz_s1 fun _ => rfl
theorem g264_29 : rg Z d rx_m264 29 L (v3 :: v2 :: v1 :: [.ref t0]) (rz_mk h ι, w) = rz_k true (rz_f Z d 175 [v1, v2, v3] (rz_mk h ι, w)) (fun v σ' => rg Z d rx_m264 32 L (v.toList ++ [.ref t0]) σ') := rz_cs (pc := 29) (n := 3) (mi := 175) (S := v3 :: v2 :: v1 :: [.ref t0]) (rest := [.ref t0]) rfl rfl (Nat.le_of_ble_eq_true rfl) (Nat.le_of_ble_eq_true rfl)
theorem g264_32 : rg Z d rx_m264 32 L (.int x :: S) (rz_mk h ι, w) = if x = 0 then rg Z d rx_m264 35 L S (rz_mk h ι, w) else rg Z d rx_m264 39 L S (rz_mk h ι, w) := rz_if1 (pc := 32) (t := 39) (off := 7) (cc := .ne) (by decide) rfl
theorem g264_35 : rg Z d rx_m264 35 L S (rz_mk h ι, w) = rg Z d rx_m264 36 L (.int 1 :: S) (rz_mk h ι, w) := rz_s1 fun _ => rfl
theorem g264_36 : rg Z d rx_m264 36 L S (rz_mk h ι, w) = rg Z d rx_m264 40 L S (rz_mk h ι, w) := rz_s1 fun _ => rfl
theorem g264_39 : rg Z d rx_m264 39 L S (rz_mk h ι, w) = rg Z d rx_m264 40 L (.int 0 :: S) (rz_mk h ι, w) := rz_s1 fun _ => rfl
theorem g264_40 : rg Z d rx_m264 40 L S (rz_mk h ι, w) = rg Z d rx_m264 41 L (.int 1 :: S) (rz_mk h ι, w) := rz_s1 fun _ => rfl
theorem g264_41 : rg Z d rx_m264 41 L S (rz_mk h ι, w) = rg Z d rx_m264 42 L (.int 1 :: S) (rz_mk h ι, w) := rz_s1 fun _ => rfl
theorem g264_42 (c : rz_oc h a 12) : rg Z d rx_m264 42 L (v3 :: v2 :: v1 :: .ref a :: []) (rz_mk h ι, w) = rz_k true (rz_f Z d 174 [.ref a, v1, v2, v3] (rz_mk h ι, w)) (fun v σ' => rg Z d rx_m264 45 L (v.toList ++ []) σ') := rz_cv (pc := 42) (n := 3) (mi := 174) (S := v3 :: v2 :: v1 :: .ref a :: []) (rest := []) rfl rfl (Nat.le_of_ble_eq_true rfl) (Nat.le_of_ble_eq_true rfl) c
theorem g264_45 : rg Z d rx_m264 45 L (.int x :: S) (rz_mk h ι, w) = if x = 0 then rg Z d rx_m264 50 L S (rz_mk h ι, w) else rg Z d rx_m264 48 L S (rz_mk h ι, w) := rz_if1 (pc := 45) (t := 50) (off := 5) (cc := .eq) (by decide) rfl
theorem g264_48 : rg Z d rx_m264 48 L S (rz_mk h ι, w) = rg Z d rx_m264 49 L (.int 0 :: S) (rz_mk h ι, w) := rz_s1 fun _ => rfl
theorem g264_49 : rg Z d rx_m264 49 L [.int x] (rz_mk h ι, w) = some (.inl (some (.int x)), (rz_mk h ι, w)) := rz_reti rfl rfl rfl
theorem g264_50 : rg Z d rx_m264 50 L S (rz_mk h ι, w) = rg Z d rx_m264 51 L (.int 0 :: S) (rz_mk h ι, w) := rz_s1 fun _ => rfl
theorem g264_51 : rg Z d rx_m264 51 [l0, l1, l2, some (.int z), l4, l5, l6, l7, l8] (.int x :: S) (rz_mk h ι, w) = rg Z d rx_m264 53 [l0, l1, l2, some (.int z), some (.int x), l5, l6, l7, l8] S (rz_mk h ι, w) := rz_s1 fun _ => rfl
theorem g264_53 : rg Z d rx_m264 53 L S (rz_mk h ι, w) = rg Z d rx_m264 54 L (.int (-1) :: S) (rz_mk h ι, w) := rz_s1 fun _ => rfl
theorem g264_54 : rg Z d rx_m264 54 [l0, l1, l2, l3, some (.int z), l5, l6, l7, l8] (.int x :: S) (rz_mk h ι, w) = rg Z d rx_m264 56 [l0, l1, l2, l3, some (.int z), some (.int x), l6, l7, l8] S (rz_mk h ι, w) := rz_s1 fun _ => rfl
theorem g264_56 : rg Z d rx_m264 56 L S (rz_mk h ι, w) = rg Z d rx_m264 57 L (.int 0 :: S) (rz_mk h ι, w) := rz_s1 fun _ => rfl
theorem g264_57 : rg Z d rx_m264 57 [l0, l1, l2, l3, l4, some (.int z), l6, l7, l8] (.int x :: S) (rz_mk h ι, w) = rg Z d rx_m264 59 [l0, l1, l2, l3, l4, some (.int z), some (.int x), l7, l8] S (rz_mk h ι, w) := rz_s1 fun _ => rfl
theorem g264_59 : rg Z d rx_m264 59 L S (rz_mk h ι, w) = rg Z d rx_m264 60 L (.int 0 :: S) (rz_mk h ι, w) := rz_s1 fun _ => rfl
theorem g264_60 : rg Z d rx_m264 60 [l0, l1, l2, l3, l4, l5, some (.int z), l7, l8] (.int x :: S) (rz_mk h ι, w) = rg Z d rx_m264 62 [l0, l1, l2, l3, l4, l5, some (.int z), some (.int x), l8] S (rz_mk h ι, w) := rz_s1 fun _ => rfl
theorem g264_62 : rg Z d rx_m264 62 [l0, l1, l2, l3, l4, l5, l6, some (.int x), l8] S (rz_mk h ι, w) = rg Z d rx_m264 64 [l0, l1, l2, l3, l4, l5, l6, some (.int x), l8] (.int x :: S) (rz_mk h ι, w) := rz_s1 fun _ => rfl
theorem g264_64 : rg Z d rx_m264 64 L S (rz_mk h ι, w) = rg Z d rx_m264 65 L (.int 2 :: S) (rz_mk h ι, w) := rz_s1 fun _ => rfl
theorem g264_65 : rg Z d rx_m264 65 L (.int y :: .int x :: S) (rz_mk h ι, w) = if x < y then rg Z d rx_m264 68 L S (rz_mk h ι, w) else rg Z d rx_m264 170 L S (rz_mk h ι, w) := rz_if2 (pc := 65) (t := 170) (off := 105) (cc := .ge) (by decide) rfl
theorem g264_68 : rg Z d rx_m264 68 L S (rz_mk h ι, w) = rg Z d rx_m264 69 L (.int 0 :: S) (rz_mk h ι, w) := rz_s1 fun _ => rfl
theorem g264_69 : rg Z d rx_m264 69 [l0, l1, l2, l3, l4, l5, l6, some (.int z), l8] (.int x :: S) (rz_mk h ι, w) = rg Z d rx_m264 71 [l0, l1, l2, l3, l4, l5, l6, some (.int z), some (.int x)] S (rz_mk h ι, w) := rz_s1 fun _ => rfl
theorem g264_71 : rg Z d rx_m264 71 [l0, l1, l2, l3, l4, l5, l6, l7, some (.int x)] S (rz_mk h ι, w) = rg Z d rx_m264 73 [l0, l1, l2, l3, l4, l5, l6, l7, some (.int x)] (.int x :: S) (rz_mk h ι, w) := rz_s1 fun _ => rfl
theorem g264_73 : rg Z d rx_m264 73 L S (rz_mk h ι, w) = rg Z d rx_m264 74 L (.int 2 :: S) (rz_mk h ι, w) := rz_s1 fun _ => rfl
theorem g264_74 : rg Z d rx_m264 74 L (.int y :: .int x :: S) (rz_mk h ι, w) = if x < y then rg Z d rx_m264 77 L S (rz_mk h ι, w) else rg Z d rx_m264 164 L S (rz_mk h ι, w) := rz_if2 (pc := 74) (t := 164) (off := 90) (cc := .ge) (by decide) rfl
theorem g264_77 : rg Z d rx_m264 77 [l0, l1, l2, l3, l4, l5, l6, some (.int x), l8] S (rz_mk h ι, w) = rg Z d rx_m264 79 [l0, l1, l2, l3, l4, l5, l6, some (.int x), l8] (.int x :: S) (rz_mk h ι, w) := rz_s1 fun _ => rfl
theorem g264_79 : rg Z d rx_m264 79 [l0, l1, l2, l3, l4, l5, l6, l7, some (.int x)] S (rz_mk h ι, w) = rg Z d rx_m264 81 [l0, l1, l2, l3, l4, l5, l6, l7, some (.int x)] (.int x :: S) (rz_mk h ι, w) := rz_s1 fun _ => rfl
theorem g264_81 : rg Z d rx_m264 81 [l0, some (.int x), l2, l3, l4, l5, l6, l7, l8] S (rz_mk h ι, w) = rg Z d rx_m264 82 [l0, some (.int x), l2, l3, l4, l5, l6, l7, l8] (.int x :: S) (rz_mk h ι, w) := rz_s1 fun _ => rfl
theorem g264_82 : rg Z d rx_m264 82 [l0, l1, some (.int x), l3, l4, l5, l6, l7, l8] S (rz_mk h ι, w) = rg Z d rx_m264 83 [l0, l1, some (.int x), l3, l4, l5, l6, l7, l8] (.int x :: S) (rz_mk h ι, w) := rz_s1 fun _ => rfl
theorem g264_83 : rg Z d rx_m264 83 L (v4 :: v3 :: v2 :: v1 :: []) (rz_mk h ι, w) = rz_k true (rz_f Z d 263 [v1, v2, v3, v4] (rz_mk h ι, w)) (fun v σ' => rg Z d rx_m264 86 L (v.toList ++ []) σ') := rz_cs (pc := 83) (n := 4) (mi := 263) (S := v4 :: v3 :: v2 :: v1 :: []) (rest := []) rfl rfl (Nat.le_of_ble_eq_true rfl) (Nat.le_of_ble_eq_true rfl)
theorem g264_86 : rg Z d rx_m264 86 L (.int x :: S) (rz_mk h ι, w) = if x = 0 then rg Z d rx_m264 158 L S (rz_mk h ι, w) else rg Z d rx_m264 89 L S (rz_mk h ι, w) := rz_if1 (pc := 86) (t := 158) (off := 72) (cc := .eq) (by decide) rfl
theorem g264_89 : rg Z d rx_m264 89 [l0, l1, l2, l3, l4, l5, l6, l7, some (.int x)] S (rz_mk h ι, w) = rg Z d rx_m264 91 [l0, l1, l2, l3, l4, l5, l6, l7, some (.int x)] (.int x :: S) (rz_mk h ι, w) := rz_s1 fun _ => rfl
theorem g264_91 : rg Z d rx_m264 91 [l0, l1, l2, l3, l4, l5, l6, some (.int x), l8] S (rz_mk h ι, w) = rg Z d rx_m264 93 [l0, l1, l2, l3, l4, l5, l6, some (.int x), l8] (.int x :: S) (rz_mk h ι, w) := rz_s1 fun _ => rfl
theorem g264_93 : rg Z d rx_m264 93 [l0, some (.int x), l2, l3, l4, l5, l6, l7, l8] S (rz_mk h ι, w) = rg Z d rx_m264 94 [l0, some (.int x), l2, l3, l4, l5, l6, l7, l8] (.int x :: S) (rz_mk h ι, w) := rz_s1 fun _ => rfl
theorem g264_94 : rg Z d rx_m264 94 [l0, l1, some (.int x), l3, l4, l5, l6, l7, l8] S (rz_mk h ι, w) = rg Z d rx_m264 95 [l0, l1, some (.int x), l3, l4, l5, l6, l7, l8] (.int x :: S) (rz_mk h ι, w) := rz_s1 fun _ => rfl
theorem g264_95 : rg Z d rx_m264 95 L (v4 :: v3 :: v2 :: v1 :: []) (rz_mk h ι, w) = rz_k true (rz_f Z d 263 [v1, v2, v3, v4] (rz_mk h ι, w)) (fun v σ' => rg Z d rx_m264 98 L (v.toList ++ []) σ') := rz_cs (pc := 95) (n := 4) (mi := 263) (S := v4 :: v3 :: v2 :: v1 :: []) (rest := []) rfl rfl (Nat.le_of_ble_eq_true rfl) (Nat.le_of_ble_eq_true rfl)
theorem g264_98 : rg Z d rx_m264 98 L (.int x :: S) (rz_mk h ι, w) = if x = 0 then rg Z d rx_m264 101 L S (rz_mk h ι, w) else rg Z d rx_m264 104 L S (rz_mk h ι, w) := rz_if1 (pc := 98) (t := 104) (off := 6) (cc := .ne) (by decide) rfl
theorem g264_101 : rg Z d rx_m264 101 L S (rz_mk h ι, w) = rg Z d rx_m264 158 L S (rz_mk h ι, w) := rz_s1 fun _ => rfl
theorem g264_104 : rg Z d rx_m264 104 [l0, l1, l2, l3, some (.int x), l5, l6, l7, l8] S (rz_mk h ι, w) = rg Z d rx_m264 106 [l0, l1, l2, l3, some (.int x), l5, l6, l7, l8] (.int x :: S) (rz_mk h ι, w) := rz_s1 fun _ => rfl
theorem g264_106 : rg Z d rx_m264 106 L (.int x :: S) (rz_mk h ι, w) = if x = 0 then rg Z d rx_m264 109 L S (rz_mk h ι, w) else rg Z d rx_m264 131 L S (rz_mk h ι, w) := rz_if1 (pc := 106) (t := 131) (off := 25) (cc := .ne) (by decide) rfl
theorem g264_109 : rg Z d rx_m264 109 [l0, l1, l2, l3, l4, l5, l6, some (.int x), l8] S (rz_mk h ι, w) = rg Z d rx_m264 111 [l0, l1, l2, l3, l4, l5, l6, some (.int x), l8] (.int x :: S) (rz_mk h ι, w) := rz_s1 fun _ => rfl
theorem g264_111 : rg Z d rx_m264 111 [l0, l1, l2, l3, l4, l5, l6, l7, some (.int x)] S (rz_mk h ι, w) = rg Z d rx_m264 113 [l0, l1, l2, l3, l4, l5, l6, l7, some (.int x)] (.int x :: S) (rz_mk h ι, w) := rz_s1 fun _ => rfl
theorem g264_113 : rg Z d rx_m264 113 [l0, some (.int x), l2, l3, l4, l5, l6, l7, l8] S (rz_mk h ι, w) = rg Z d rx_m264 114 [l0, some (.int x), l2, l3, l4, l5, l6, l7, l8] (.int x :: S) (rz_mk h ι, w) := rz_s1 fun _ => rfl
theorem g264_114 : rg Z d rx_m264 114 [l0, l1, some (.int x), l3, l4, l5, l6, l7, l8] S (rz_mk h ι, w) = rg Z d rx_m264 115 [l0, l1, some (.int x), l3, l4, l5, l6, l7, l8] (.int x :: S) (rz_mk h ι, w) := rz_s1 fun _ => rfl
theorem g264_115 : rg Z d rx_m264 115 L (v4 :: v3 :: v2 :: v1 :: []) (rz_mk h ι, w) = rz_k true (rz_f Z d 262 [v1, v2, v3, v4] (rz_mk h ι, w)) (fun v σ' => rg Z d rx_m264 118 L (v.toList ++ []) σ') := rz_cs (pc := 115) (n := 4) (mi := 262) (S := v4 :: v3 :: v2 :: v1 :: []) (rest := []) rfl rfl (Nat.le_of_ble_eq_true rfl) (Nat.le_of_ble_eq_true rfl)
theorem g264_118 : rg Z d rx_m264 118 [l0, l1, l2, l3, l4, l5, l6, l7, some (.int x)] S (rz_mk h ι, w) = rg Z d rx_m264 120 [l0, l1, l2, l3, l4, l5, l6, l7, some (.int x)] (.int x :: S) (rz_mk h ι, w) := rz_s1 fun _ => rfl
theorem g264_120 : rg Z d rx_m264 120 [l0, l1, l2, l3, l4, l5, l6, some (.int x), l8] S (rz_mk h ι, w) = rg Z d rx_m264 122 [l0, l1, l2, l3, l4, l5, l6, some (.int x), l8] (.int x :: S) (rz_mk h ι, w) := rz_s1 fun _ => rfl
theorem g264_122 : rg Z d rx_m264 122 [l0, some (.int x), l2, l3, l4, l5, l6, l7, l8] S (rz_mk h ι, w) = rg Z d rx_m264 123 [l0, some (.int x), l2, l3, l4, l5, l6, l7, l8] (.int x :: S) (rz_mk h ι, w) := rz_s1 fun _ => rfl
theorem g264_123 : rg Z d rx_m264 123 [l0, l1, some (.int x), l3, l4, l5, l6, l7, l8] S (rz_mk h ι, w) = rg Z d rx_m264 124 [l0, l1, some (.int x), l3, l4, l5, l6, l7, l8] (.int x :: S) (rz_mk h ι, w) := rz_s1 fun _ => rfl
theorem g264_124 : rg Z d rx_m264 124 L (v4 :: v3 :: v2 :: v1 :: [.int s0]) (rz_mk h ι, w) = rz_k true (rz_f Z d 262 [v1, v2, v3, v4] (rz_mk h ι, w)) (fun v σ' => rg Z d rx_m264 127 L (v.toList ++ [.int s0]) σ') := rz_cs (pc := 124) (n := 4) (mi := 262) (S := v4 :: v3 :: v2 :: v1 :: [.int s0]) (rest := [.int s0]) rfl rfl (Nat.le_of_ble_eq_true rfl) (Nat.le_of_ble_eq_true rfl)
theorem g264_127 : rg Z d rx_m264 127 L (.int y :: .int x :: S) (rz_mk h ι, w) = rg Z d rx_m264 128 L (.int (x + y) :: S) (rz_mk h ι, w) := rz_s1 fun _ => rfl
theorem g264_128 : rg Z d rx_m264 128 L S (rz_mk h ι, w) = rg Z d rx_m264 133 L S (rz_mk h ι, w) := rz_s1 fun _ => rfl
theorem g264_131 : rg Z d rx_m264 131 [l0, l1, l2, l3, l4, l5, some (.int x), l7, l8] S (rz_mk h ι, w) = rg Z d rx_m264 133 [l0, l1, l2, l3, l4, l5, some (.int x), l7, l8] (.int x :: S) (rz_mk h ι, w) := rz_s1 fun _ => rfl
theorem g264_133 : rg Z d rx_m264 133 [l0, l1, l2, l3, l4, some (.int z), l6, l7, l8] (.int x :: S) (rz_mk h ι, w) = rg Z d rx_m264 135 [l0, l1, l2, l3, l4, some (.int z), some (.int x), l7, l8] S (rz_mk h ι, w) := rz_s1 fun _ => rfl
theorem g264_135 : rg Z d rx_m264 135 [l0, l1, l2, l3, some (.int x), l5, l6, l7, l8] S (rz_mk h ι, w) = rg Z d rx_m264 137 [l0, l1, l2, l3, some (.int x), l5, l6, l7, l8] (.int x :: S) (rz_mk h ι, w) := rz_s1 fun _ => rfl
theorem g264_137 : rg Z d rx_m264 137 L (.int x :: S) (rz_mk h ι, w) = if x = 0 then rg Z d rx_m264 140 L S (rz_mk h ι, w) else rg Z d rx_m264 151 L S (rz_mk h ι, w) := rz_if1 (pc := 137) (t := 151) (off := 14) (cc := .ne) (by decide) rfl
theorem g264_140 : rg Z d rx_m264 140 L S (rz_mk h ι, w) = rg Z d rx_m264 142 L (.int 10 :: S) (rz_mk h ι, w) := rz_s1 fun _ => rfl
theorem g264_142 : rg Z d rx_m264 142 [l0, l1, l2, l3, l4, l5, l6, some (.int x), l8] S (rz_mk h ι, w) = rg Z d rx_m264 144 [l0, l1, l2, l3, l4, l5, l6, some (.int x), l8] (.int x :: S) (rz_mk h ι, w) := rz_s1 fun _ => rfl
theorem g264_144 : rg Z d rx_m264 144 L (.int y :: .int x :: S) (rz_mk h ι, w) = rg Z d rx_m264 145 L (.int (x * y) :: S) (rz_mk h ι, w) := rz_s1 fun _ => rfl
theorem g264_145 : rg Z d rx_m264 145 [l0, l1, l2, l3, l4, l5, l6, l7, some (.int x)] S (rz_mk h ι, w) = rg Z d rx_m264 147 [l0, l1, l2, l3, l4, l5, l6, l7, some (.int x)] (.int x :: S) (rz_mk h ι, w) := rz_s1 fun _ => rfl
theorem g264_147 : rg Z d rx_m264 147 L (.int y :: .int x :: S) (rz_mk h ι, w) = rg Z d rx_m264 148 L (.int (x + y) :: S) (rz_mk h ι, w) := rz_s1 fun _ => rfl
theorem g264_148 : rg Z d rx_m264 148 L S (rz_mk h ι, w) = rg Z d rx_m264 153 L S (rz_mk h ι, w) := rz_s1 fun _ => rfl
theorem g264_151 : rg Z d rx_m264 151 [l0, l1, l2, l3, l4, some (.int x), l6, l7, l8] S (rz_mk h ι, w) = rg Z d rx_m264 153 [l0, l1, l2, l3, l4, some (.int x), l6, l7, l8] (.int x :: S) (rz_mk h ι, w) := rz_s1 fun _ => rfl
theorem g264_153 : rg Z d rx_m264 153 [l0, l1, l2, l3, some (.int z), l5, l6, l7, l8] (.int x :: S) (rz_mk h ι, w) = rg Z d rx_m264 155 [l0, l1, l2, l3, some (.int z), some (.int x), l6, l7, l8] S (rz_mk h ι, w) := rz_s1 fun _ => rfl
theorem g264_155 : rg Z d rx_m264 155 [l0, l1, l2, some (.int z), some (.int x), l5, l6, l7, l8] S (rz_mk h ι, w) = rg Z d rx_m264 158 [l0, l1, l2, some (.int z), some (.int (x + 1)), l5, l6, l7, l8] S (rz_mk h ι, w) := rz_s1 fun _ => rfl
theorem g264_158 : rg Z d rx_m264 158 [l0, l1, l2, l3, l4, l5, l6, some (.int z), some (.int x)] S (rz_mk h ι, w) = rg Z d rx_m264 161 [l0, l1, l2, l3, l4, l5, l6, some (.int z), some (.int (x + 1))] S (rz_mk h ι, w) := rz_s1 fun _ => rfl
theorem g264_161 : rg Z d rx_m264 161 L S (rz_mk h ι, w) = rg Z d rx_m264 71 L S (rz_mk h ι, w) := rz_s1 fun _ => rfl
theorem g264_164 : rg Z d rx_m264 164 [l0, l1, l2, l3, l4, l5, some (.int z), some (.int x), l8] S (rz_mk h ι, w) = rg Z d rx_m264 167 [l0, l1, l2, l3, l4, l5, some (.int z), some (.int (x + 1)), l8] S (rz_mk h ι, w) := rz_s1 fun _ => rfl
theorem g264_167 : rg Z d rx_m264 167 L S (rz_mk h ι, w) = rg Z d rx_m264 62 L S (rz_mk h ι, w) := rz_s1 fun _ => rfl
theorem g264_170 : rg Z d rx_m264 170 [l0, l1, l2, some (.int x), l4, l5, l6, l7, l8] S (rz_mk h ι, w) = rg Z d rx_m264 171 [l0, l1, l2, some (.int x), l4, l5, l6, l7, l8] (.int x :: S) (rz_mk h ι, w) := rz_s1 fun _ => rfl
theorem g264_171 : rg Z d rx_m264 171 L (.int x :: S) (rz_mk h ι, w) = if x = 0 then rg Z d rx_m264 174 L S (rz_mk h ι, w) else rg Z d rx_m264 179 L S (rz_mk h ι, w) := rz_if1 (pc := 171) (t := 179) (off := 8) (cc := .ne) (by decide) rfl
theorem g264_174 : rg Z d rx_m264 174 [l0, l1, l2, l3, some (.int x), l5, l6, l7, l8] S (rz_mk h ι, w) = rg Z d rx_m264 176 [l0, l1, l2, l3, some (.int x), l5, l6, l7, l8] (.int x :: S) (rz_mk h ι, w) := rz_s1 fun _ => rfl
theorem g264_176 : rg Z d rx_m264 176 L S (rz_mk h ι, w) = rg Z d rx_m264 191 L S (rz_mk h ι, w) := rz_s1 fun _ => rfl
theorem g264_179 : rg Z d rx_m264 179 [l0, l1, l2, some (.int x), l4, l5, l6, l7, l8] S (rz_mk h ι, w) = rg Z d rx_m264 180 [l0, l1, l2, some (.int x), l4, l5, l6, l7, l8] (.int x :: S) (rz_mk h ι, w) := rz_s1 fun _ => rfl
theorem g264_180 : rg Z d rx_m264 180 L S (rz_mk h ι, w) = rg Z d rx_m264 181 L (.int 1 :: S) (rz_mk h ι, w) := rz_s1 fun _ => rfl
theorem g264_181 : rg Z d rx_m264 181 L (.int y :: .int x :: S) (rz_mk h ι, w) = if x = y then rg Z d rx_m264 184 L S (rz_mk h ι, w) else rg Z d rx_m264 189 L S (rz_mk h ι, w) := rz_if2 (pc := 181) (t := 189) (off := 8) (cc := .ne) (by decide) rfl
theorem g264_184 : rg Z d rx_m264 184 [l0, l1, l2, l3, l4, some (.int x), l6, l7, l8] S (rz_mk h ι, w) = rg Z d rx_m264 186 [l0, l1, l2, l3, l4, some (.int x), l6, l7, l8] (.int x :: S) (rz_mk h ι, w) := rz_s1 fun _ => rfl
theorem g264_186 : rg Z d rx_m264 186 L S (rz_mk h ι, w) = rg Z d rx_m264 191 L S (rz_mk h ι, w) := rz_s1 fun _ => rfl
theorem g264_189 : rg Z d rx_m264 189 [l0, l1, l2, l3, l4, l5, some (.int x), l7, l8] S (rz_mk h ι, w) = rg Z d rx_m264 191 [l0, l1, l2, l3, l4, l5, some (.int x), l7, l8] (.int x :: S) (rz_mk h ι, w) := rz_s1 fun _ => rfl
theorem g264_191 : rg Z d rx_m264 191 L [.int x] (rz_mk h ι, w) = some (.inl (some (.int x)), (rz_mk h ι, w)) := rz_reti rfl rfl rfl
theorem e264 : rz_f Z (d + 1) 264 [.ref t0, .int s1, .int s2, .int s3] σ = rg Z d rx_m264 0 [some (.ref t0), some (.int s1), some (.int s2), some (.int s3), none, none, none, none, none] [] σ := rz_f_eq rfl (Nat.le_of_ble_eq_true rfl)
theorem g265_0 : rg Z d rx_m265 0 [some (.ref a), l1] S (rz_mk h ι, w) = rg Z d rx_m265 1 [some (.ref a), l1] (.ref a :: S) (rz_mk h ι, w) := rz_s1 fun _ => rfl
theorem g265_1 (c : rz_fR h a 12 25) : rg Z d rx_m265 1 L (.ref a :: S) (rz_mk h ι, w) = rg Z d rx_m265 4 L (rz_rv h a 25 :: S) (rz_mk h ι, w) := rz_gR rfl (by decide) c
theorem g265_4 : rg Z d rx_m265 4 [l0, some (.int x)] S (rz_mk h ι, w) = rg Z d rx_m265 5 [l0, some (.int x)] (.int x :: S) (rz_mk h ι, w) := rz_s1 fun _ => rfl
theorem g265_5 : rg Z d rx_m265 5 L (v2 :: v1 :: []) (rz_mk h ι, w) = rz_k true (rz_f Z d 222 [v1, v2] (rz_mk h ι, w)) (fun v σ' => rg Z d rx_m265 8 L (v.toList ++ []) σ') := rz_cs (pc := 5) (n := 2) (mi := 222) (S := v2 :: v1 :: []) (rest := []) rfl rfl (Nat.le_of_ble_eq_true rfl) (Nat.le_of_ble_eq_true rfl)
theorem g265_8 : rg Z d rx_m265 8 L (.int x :: S) (rz_mk h ι, w) = if x = 0 then rg Z d rx_m265 23 L S (rz_mk h ι, w) else rg Z d rx_m265 11 L S (rz_mk h ι, w) := rz_if1 (pc := 8) (t := 23) (off := 15) (cc := .eq) (by decide) rfl
theorem g265_11 : rg Z d rx_m265 11 [some (.ref a), l1] S (rz_mk h ι, w) = rg Z d rx_m265 12 [some (.ref a), l1] (.ref a :: S) (rz_mk h ι, w) := rz_s1 fun _ => rfl
theorem g265_12 : rg Z d rx_m265 12 [some (.ref a), l1] S (rz_mk h ι, w) = rg Z d rx_m265 13 [some (.ref a), l1] (.ref a :: S) (rz_mk h ι, w) := rz_s1 fun _ => rfl
theorem g265_13 (c : rz_fR h a 12 25) : rg Z d rx_m265 13 L (.ref a :: S) (rz_mk h ι, w) = rg Z d rx_m265 16 L (rz_rv h a 25 :: S) (rz_mk h ι, w) := rz_gR rfl (by decide) c
theorem g265_16 : rg Z d rx_m265 16 [l0, some (.int x)] S (rz_mk h ι, w) = rg Z d rx_m265 17 [l0, some (.int x)] (.int x :: S) (rz_mk h ι, w) := rz_s1 fun _ => rfl
theorem g265_17 (c : rz_oc h a 12) : rg Z d rx_m265 17 L (v2 :: v1 :: .ref a :: []) (rz_mk h ι, w) = rz_k true (rz_f Z d 237 [.ref a, v1, v2] (rz_mk h ι, w)) (fun v σ' => rg Z d rx_m265 20 L (v.toList ++ []) σ') := rz_cv (pc := 17) (n := 2) (mi := 237) (S := v2 :: v1 :: .ref a :: []) (rest := []) rfl rfl (Nat.le_of_ble_eq_true rfl) (Nat.le_of_ble_eq_true rfl) c
theorem g265_20 : rg Z d rx_m265 20 L S (rz_mk h ι, w) = rg Z d rx_m265 24 L S (rz_mk h ι, w) := rz_s1 fun _ => rfl
theorem g265_23 : rg Z d rx_m265 23 L S (rz_mk h ι, w) = rg Z d rx_m265 24 L (.int 0 :: S) (rz_mk h ι, w) := rz_s1 fun _ => rfl
theorem g265_24 : rg Z d rx_m265 24 L [.int x] (rz_mk h ι, w) = some (.inl (some (.int x)), (rz_mk h ι, w)) := rz_reti rfl rfl rfl
theorem e265 : rz_f Z (d + 1) 265 [.ref t0, .int s1] σ = rg Z d rx_m265 0 [some (.ref t0), some (.int s1)] [] σ := rz_f_eq rfl (Nat.le_of_ble_eq_true rfl)
theorem g266_0 : rg Z d rx_m266 0 L S (rz_mk h ι, w) = rg Z d rx_m266 1 L (.int 0 :: S) (rz_mk h ι, w) := rz_s1 fun _ => rfl
theorem g266_1 : rg Z d rx_m266 1 [l0, l1, some (.int z), l3, l4] (.int x :: S) (rz_mk h ι, w) = rg Z d rx_m266 2 [l0, l1, some (.int z), some (.int x), l4] S (rz_mk h ι, w) := rz_s1 fun _ => rfl
theorem g266_2 : rg Z d rx_m266 2 L S (rz_mk h ι, w) = rg Z d rx_m266 3 L (.int 0 :: S) (rz_mk h ι, w) := rz_s1 fun _ => rfl
theorem g266_3 : rg Z d rx_m266 3 [l0, l1, l2, some (.int z), l4] (.int x :: S) (rz_mk h ι, w) = rg Z d rx_m266 5 [l0, l1, l2, some (.int z), some (.int x)] S (rz_mk h ι, w) := rz_s1 fun _ => rfl
theorem g266_5 : rg Z d rx_m266 5 [l0, l1, l2, l3, some (.int x)] S (rz_mk h ι, w) = rg Z d rx_m266 7 [l0, l1, l2, l3, some (.int x)] (.int x :: S) (rz_mk h ι, w) := rz_s1 fun _ => rfl
theorem g266_7 : rg Z d rx_m266 7 [some (.ref a), l1, l2, l3, l4] S (rz_mk h ι, w) = rg Z d rx_m266 8 [some (.ref a), l1, l2, l3, l4] (.ref a :: S) (rz_mk h ι, w) := rz_s1 fun _ => rfl
theorem g266_8 (c : rz_fR h a 12 25) : rg Z d rx_m266 8 L (.ref a :: S) (rz_mk h ι, w) = rg Z d rx_m266 11 L (rz_rv h a 25 :: S) (rz_mk h ι, w) := rz_gR rfl (by decide) c
theorem g266_11 : rg Z d rx_m266 11 L S (rz_mk h ι, w) = rg Z d rx_m266 13 L (.int 57 :: S) (rz_mk h ι, w) := rz_s1 fun _ => rfl
theorem g266_13 (c : rz_ar h a 0) (hi : rz_ix x (rz_ln h a)) : rg Z d rx_m266 13 L (.int x :: .ref a :: S) (rz_mk h ι, w) = rg Z d rx_m266 14 L (.int (ι a x.toNatClampNeg) :: S) (rz_mk h ι, w) := rz_iald rfl c hi
theorem g266_14 : rg Z d rx_m266 14 L (.int y :: .int x :: S) (rz_mk h ι, w) = if x < y then rg Z d rx_m266 17 L S (rz_mk h ι, w) else rg Z d rx_m266 49 L S (rz_mk h ι, w) := rz_if2 (pc := 14) (t := 49) (off := 35) (cc := .ge) (by decide) rfl
theorem g266_17 : rg Z d rx_m266 17 [l0, l1, l2, some (.int x), l4] S (rz_mk h ι, w) = rg Z d rx_m266 18 [l0, l1, l2, some (.int x), l4] (.int x :: S) (rz_mk h ι, w) := rz_s1 fun _ => rfl
theorem g266_18 : rg Z d rx_m266 18 [l0, some (.int x), l2, l3, l4] S (rz_mk h ι, w) = rg Z d rx_m266 19 [l0, some (.int x), l2, l3, l4] (.int x :: S) (rz_mk h ι, w) := rz_s1 fun _ => rfl
theorem g266_19 : rg Z d rx_m266 19 [l0, l1, l2, l3, some (.int x)] S (rz_mk h ι, w) = rg Z d rx_m266 21 [l0, l1, l2, l3, some (.int x)] (.int x :: S) (rz_mk h ι, w) := rz_s1 fun _ => rfl
theorem g266_21 : rg Z d rx_m266 21 L (v2 :: v1 :: [.int s0]) (rz_mk h ι, w) = rz_k true (rz_f Z d 178 [v1, v2] (rz_mk h ι, w)) (fun v σ' => rg Z d rx_m266 24 L (v.toList ++ [.int s0]) σ') := rz_cs (pc := 21) (n := 2) (mi := 178) (S := v2 :: v1 :: [.int s0]) (rest := [.int s0]) rfl rfl (Nat.le_of_ble_eq_true rfl) (Nat.le_of_ble_eq_true rfl)
theorem g266_24 : rg Z d rx_m266 24 L (.int x :: S) (rz_mk h ι, w) = if x = 0 then rg Z d rx_m266 40 L S (rz_mk h ι, w) else rg Z d rx_m266 27 L S (rz_mk h ι, w) := rz_if1 (pc := 24) (t := 40) (off := 16) (cc := .eq) (by decide) rfl
theorem g266_27 : rg Z d rx_m266 27 [l0, l1, some (.int x), l3, l4] S (rz_mk h ι, w) = rg Z d rx_m266 28 [l0, l1, some (.int x), l3, l4] (.int x :: S) (rz_mk h ι, w) := rz_s1 fun _ => rfl
theorem g266_28 : rg Z d rx_m266 28 [some (.ref a), l1, l2, l3, l4] S (rz_mk h ι, w) = rg Z d rx_m266 29 [some (.ref a), l1, l2, l3, l4] (.ref a :: S) (rz_mk h ι, w) := rz_s1 fun _ => rfl
theorem g266_29 : rg Z d rx_m266 29 [l0, l1, l2, l3, some (.int x)] S (rz_mk h ι, w) = rg Z d rx_m266 31 [l0, l1, l2, l3, some (.int x)] (.int x :: S) (rz_mk h ι, w) := rz_s1 fun _ => rfl
theorem g266_31 (c : rz_oc h a 12) : rg Z d rx_m266 31 L (v1 :: .ref a :: [.int s0, .int s1]) (rz_mk h ι, w) = rz_k true (rz_f Z d 265 [.ref a, v1] (rz_mk h ι, w)) (fun v σ' => rg Z d rx_m266 34 L (v.toList ++ [.int s0, .int s1]) σ') := rz_cv (pc := 31) (n := 1) (mi := 265) (S := v1 :: .ref a :: [.int s0, .int s1]) (rest := [.int s0, .int s1]) rfl rfl (Nat.le_of_ble_eq_true rfl) (Nat.le_of_ble_eq_true rfl) c
theorem g266_34 : rg Z d rx_m266 34 L (v2 :: v1 :: [.int s0]) (rz_mk h ι, w) = rz_k true (rz_f Z d 176 [v1, v2] (rz_mk h ι, w)) (fun v σ' => rg Z d rx_m266 37 L (v.toList ++ [.int s0]) σ') := rz_cs (pc := 34) (n := 2) (mi := 176) (S := v2 :: v1 :: [.int s0]) (rest := [.int s0]) rfl rfl (Nat.le_of_ble_eq_true rfl) (Nat.le_of_ble_eq_true rfl)
theorem g266_37 : rg Z d rx_m266 37 L S (rz_mk h ι, w) = rg Z d rx_m266 41 L S (rz_mk h ι, w) := rz_s1 fun _ => rfl
theorem g266_40 : rg Z d rx_m266 40 L S (rz_mk h ι, w) = rg Z d rx_m266 41 L (.int 0 :: S) (rz_mk h ι, w) := rz_s1 fun _ => rfl
theorem g266_41 : rg Z d rx_m266 41 L (.int y :: .int x :: S) (rz_mk h ι, w) = rg Z d rx_m266 42 L (.int (x + y) :: S) (rz_mk h ι, w) := rz_s1 fun _ => rfl
theorem g266_42 : rg Z d rx_m266 42 [l0, l1, some (.int z), l3, l4] (.int x :: S) (rz_mk h ι, w) = rg Z d rx_m266 43 [l0, l1, some (.int z), some (.int x), l4] S (rz_mk h ι, w) := rz_s1 fun _ => rfl
theorem g266_43 : rg Z d rx_m266 43 [l0, l1, l2, some (.int z), some (.int x)] S (rz_mk h ι, w) = rg Z d rx_m266 46 [l0, l1, l2, some (.int z), some (.int (x + 1))] S (rz_mk h ι, w) := rz_s1 fun _ => rfl
theorem g266_46 : rg Z d rx_m266 46 L S (rz_mk h ι, w) = rg Z d rx_m266 5 L S (rz_mk h ι, w) := rz_s1 fun _ => rfl
theorem g266_49 : rg Z d rx_m266 49 [l0, l1, l2, some (.int x), l4] S (rz_mk h ι, w) = rg Z d rx_m266 50 [l0, l1, l2, some (.int x), l4] (.int x :: S) (rz_mk h ι, w) := rz_s1 fun _ => rfl
theorem g266_50 : rg Z d rx_m266 50 L [.int x] (rz_mk h ι, w) = some (.inl (some (.int x)), (rz_mk h ι, w)) := rz_reti rfl rfl rfl
theorem e266 : rz_f Z (d + 1) 266 [.ref t0, .int s1, .int s2] σ = rg Z d rx_m266 0 [some (.ref t0), some (.int s1), some (.int s2), none, none] [] σ := rz_f_eq rfl (Nat.le_of_ble_eq_true rfl)
theorem g267_0 : rg Z d rx_m267 0 [some (.ref a), l1, l2, l3, l4] S (rz_mk h ι, w) = rg Z d rx_m267 1 [some (.ref a), l1, l2, l3, l4] (.ref a :: S) (rz_mk h ι, w) := rz_s1 fun _ => rfl
theorem g267_1 : rg Z d rx_m267 1 L S (rz_mk h ι, w) = rg Z d rx_m267 2 L (.int 0 :: S) (rz_mk h ι, w) := rz_s1 fun _ => rfl
theorem g267_2 (c : rz_fI h a 12 0) (hz : Z.2.1 ≤ a) : rg Z d rx_m267 2 L (.int x :: .ref a :: S) (rz_mk h ι, w) = rg Z d rx_m267 5 L S (rz_mk h (rz_up ι a 0 x), w) := rz_pI rfl c hz
theorem g267_5 : rg Z d rx_m267 5 [some (.ref a), l1, l2, l3, l4] S (rz_mk h ι, w) = rg Z d rx_m267 6 [some (.ref a), l1, l2, l3, l4] (.ref a :: S) (rz_mk h ι, w) := rz_s1 fun _ => rfl
theorem g267_6 : rg Z d rx_m267 6 [some (.ref a), l1, l2, l3, l4] S (rz_mk h ι, w) = rg Z d rx_m267 7 [some (.ref a), l1, l2, l3, l4] (.ref a :: S) (rz_mk h ι, w) := rz_s1 fun _ => rfl
theorem g267_7 : rg Z d rx_m267 7 [l0, some (.int x), l2, l3, l4] S (rz_mk h ι, w) = rg Z d rx_m267 8 [l0, some (.int x), l2, l3, l4] (.int x :: S) (rz_mk h ι, w) := rz_s1 fun _ => rfl
theorem g267_8 (c : rz_oc h a 12) : rg Z d rx_m267 8 L (v1 :: .ref a :: [.ref t0]) (rz_mk h ι, w) = rz_k true (rz_f Z d 236 [.ref a, v1] (rz_mk h ι, w)) (fun v σ' => rg Z d rx_m267 11 L (v.toList ++ [.ref t0]) σ') := rz_cv (pc := 8) (n := 1) (mi := 236) (S := v1 :: .ref a :: [.ref t0]) (rest := [.ref t0]) rfl rfl (Nat.le_of_ble_eq_true rfl) (Nat.le_of_ble_eq_true rfl) c
theorem g267_11 : rg Z d rx_m267 11 L (.int x :: S) (rz_mk h ι, w) = if x = 0 then rg Z d rx_m267 14 L S (rz_mk h ι, w) else rg Z d rx_m267 18 L S (rz_mk h ι, w) := rz_if1 (pc := 11) (t := 18) (off := 7) (cc := .ne) (by decide) rfl
theorem g267_14 : rg Z d rx_m267 14 L S (rz_mk h ι, w) = rg Z d rx_m267 15 L (.int 1 :: S) (rz_mk h ι, w) := rz_s1 fun _ => rfl
theorem g267_15 : rg Z d rx_m267 15 L S (rz_mk h ι, w) = rg Z d rx_m267 19 L S (rz_mk h ι, w) := rz_s1 fun _ => rfl
theorem g267_18 : rg Z d rx_m267 18 L S (rz_mk h ι, w) = rg Z d rx_m267 19 L (.int 0 :: S) (rz_mk h ι, w) := rz_s1 fun _ => rfl
theorem g267_19 : rg Z d rx_m267 19 L S (rz_mk h ι, w) = rg Z d rx_m267 20 L (.int 1 :: S) (rz_mk h ι, w) := rz_s1 fun _ => rfl
theorem g267_20 : rg Z d rx_m267 20 L S (rz_mk h ι, w) = rg Z d rx_m267 21 L (.int 0 :: S) (rz_mk h ι, w) := rz_s1 fun _ => rfl
theorem g267_21 (c : rz_oc h a 12) : rg Z d rx_m267 21 L (v3 :: v2 :: v1 :: .ref a :: []) (rz_mk h ι, w) = rz_k true (rz_f Z d 174 [.ref a, v1, v2, v3] (rz_mk h ι, w)) (fun v σ' => rg Z d rx_m267 24 L (v.toList ++ []) σ') := rz_cv (pc := 21) (n := 3) (mi := 174) (S := v3 :: v2 :: v1 :: .ref a :: []) (rest := []) rfl rfl (Nat.le_of_ble_eq_true rfl) (Nat.le_of_ble_eq_true rfl) c
theorem g267_24 : rg Z d rx_m267 24 L (.int x :: S) (rz_mk h ι, w) = if x = 0 then rg Z d rx_m267 27 L S (rz_mk h ι, w) else rg Z d rx_m267 71 L S (rz_mk h ι, w) := rz_if1 (pc := 24) (t := 71) (off := 47) (cc := .ne) (by decide) rfl
theorem g267_27 : rg Z d rx_m267 27 [some (.ref a), l1, l2, l3, l4] S (rz_mk h ι, w) = rg Z d rx_m267 28 [some (.ref a), l1, l2, l3, l4] (.ref a :: S) (rz_mk h ι, w) := rz_s1 fun _ => rfl
theorem g267_28 : rg Z d rx_m267 28 [l0, l1, some (.int x), l3, l4] S (rz_mk h ι, w) = rg Z d rx_m267 29 [l0, l1, some (.int x), l3, l4] (.int x :: S) (rz_mk h ι, w) := rz_s1 fun _ => rfl
theorem g267_29 : rg Z d rx_m267 29 L S (rz_mk h ι, w) = rg Z d rx_m267 30 L (.int 0 :: S) (rz_mk h ι, w) := rz_s1 fun _ => rfl
theorem g267_30 : rg Z d rx_m267 30 L S (rz_mk h ι, w) = rg Z d rx_m267 31 L (.int 1 :: S) (rz_mk h ι, w) := rz_s1 fun _ => rfl
theorem g267_31 : rg Z d rx_m267 31 [some (.ref a), l1, l2, l3, l4] S (rz_mk h ι, w) = rg Z d rx_m267 32 [some (.ref a), l1, l2, l3, l4] (.ref a :: S) (rz_mk h ι, w) := rz_s1 fun _ => rfl
theorem g267_32 (c : rz_fR h a 12 25) : rg Z d rx_m267 32 L (.ref a :: S) (rz_mk h ι, w) = rg Z d rx_m267 35 L (rz_rv h a 25 :: S) (rz_mk h ι, w) := rz_gR rfl (by decide) c
theorem g267_35 : rg Z d rx_m267 35 L S (rz_mk h ι, w) = rg Z d rx_m267 37 L (.int 57 :: S) (rz_mk h ι, w) := rz_s1 fun _ => rfl
theorem g267_37 (c : rz_ar h a 0) (hi : rz_ix x (rz_ln h a)) : rg Z d rx_m267 37 L (.int x :: .ref a :: S) (rz_mk h ι, w) = rg Z d rx_m267 38 L (.int (ι a x.toNatClampNeg) :: S) (rz_mk h ι, w) := rz_iald rfl c hi
theorem g267_38 : rg Z d rx_m267 38 L (.int y :: .int x :: S) (rz_mk h ι, w) = rg Z d rx_m267 39 L (.int (x <<< (y &&& 31)) :: S) (rz_mk h ι, w) := rz_s1 fun _ => rfl
theorem g267_39 : rg Z d rx_m267 39 L S (rz_mk h ι, w) = rg Z d rx_m267 40 L (.int 1 :: S) (rz_mk h ι, w) := rz_s1 fun _ => rfl
theorem g267_40 : rg Z d rx_m267 40 L (.int y :: .int x :: S) (rz_mk h ι, w) = rg Z d rx_m267 41 L (.int (x - y) :: S) (rz_mk h ι, w) := rz_s1 fun _ => rfl
theorem g267_41 : rg Z d rx_m267 41 L (v3 :: v2 :: v1 :: [.ref t0]) (rz_mk h ι, w) = rz_k true (rz_f Z d 175 [v1, v2, v3] (rz_mk h ι, w)) (fun v σ' => rg Z d rx_m267 44 L (v.toList ++ [.ref t0]) σ') := rz_cs (pc := 41) (n := 3) (mi := 175) (S := v3 :: v2 :: v1 :: [.ref t0]) (rest := [.ref t0]) rfl rfl (Nat.le_of_ble_eq_true rfl) (Nat.le_of_ble_eq_true rfl)
theorem g267_44 : rg Z d rx_m267 44 L (.int x :: S) (rz_mk h ι, w) = if x = 0 then rg Z d rx_m267 58 L S (rz_mk h ι, w) else rg Z d rx_m267 47 L S (rz_mk h ι, w) := rz_if1 (pc := 44) (t := 58) (off := 14) (cc := .eq) (by decide) rfl
theorem g267_47 : rg Z d rx_m267 47 [l0, l1, l2, some (.int x), l4] S (rz_mk h ι, w) = rg Z d rx_m267 48 [l0, l1, l2, some (.int x), l4] (.int x :: S) (rz_mk h ι, w) := rz_s1 fun _ => rfl
theorem g267_48 : rg Z d rx_m267 48 L S (rz_mk h ι, w) = rg Z d rx_m267 49 L (.int 0 :: S) (rz_mk h ι, w) := rz_s1 fun _ => rfl
theorem g267_49 : rg Z d rx_m267 49 L S (rz_mk h ι, w) = rg Z d rx_m267 52 L (.int 999 :: S) (rz_mk h ι, w) := rz_s1 fun _ => rfl
theorem g267_52 : rg Z d rx_m267 52 L (v3 :: v2 :: v1 :: [.ref t0]) (rz_mk h ι, w) = rz_k true (rz_f Z d 175 [v1, v2, v3] (rz_mk h ι, w)) (fun v σ' => rg Z d rx_m267 55 L (v.toList ++ [.ref t0]) σ') := rz_cs (pc := 52) (n := 3) (mi := 175) (S := v3 :: v2 :: v1 :: [.ref t0]) (rest := [.ref t0]) rfl rfl (Nat.le_of_ble_eq_true rfl) (Nat.le_of_ble_eq_true rfl)
theorem g267_55 : rg Z d rx_m267 55 L (.int x :: S) (rz_mk h ι, w) = if x = 0 then rg Z d rx_m267 58 L S (rz_mk h ι, w) else rg Z d rx_m267 62 L S (rz_mk h ι, w) := rz_if1 (pc := 55) (t := 62) (off := 7) (cc := .ne) (by decide) rfl
theorem g267_58 : rg Z d rx_m267 58 L S (rz_mk h ι, w) = rg Z d rx_m267 59 L (.int 1 :: S) (rz_mk h ι, w) := rz_s1 fun _ => rfl
theorem g267_59 : rg Z d rx_m267 59 L S (rz_mk h ι, w) = rg Z d rx_m267 63 L S (rz_mk h ι, w) := rz_s1 fun _ => rfl
theorem g267_62 : rg Z d rx_m267 62 L S (rz_mk h ι, w) = rg Z d rx_m267 63 L (.int 0 :: S) (rz_mk h ι, w) := rz_s1 fun _ => rfl
theorem g267_63 : rg Z d rx_m267 63 L S (rz_mk h ι, w) = rg Z d rx_m267 64 L (.int 2 :: S) (rz_mk h ι, w) := rz_s1 fun _ => rfl
theorem g267_64 : rg Z d rx_m267 64 L S (rz_mk h ι, w) = rg Z d rx_m267 65 L (.int 1 :: S) (rz_mk h ι, w) := rz_s1 fun _ => rfl
theorem g267_65 (c : rz_oc h a 12) : rg Z d rx_m267 65 L (v3 :: v2 :: v1 :: .ref a :: []) (rz_mk h ι, w) = rz_k true (rz_f Z d 174 [.ref a, v1, v2, v3] (rz_mk h ι, w)) (fun v σ' => rg Z d rx_m267 68 L (v.toList ++ []) σ') := rz_cv (pc := 65) (n := 3) (mi := 174) (S := v3 :: v2 :: v1 :: .ref a :: []) (rest := []) rfl rfl (Nat.le_of_ble_eq_true rfl) (Nat.le_of_ble_eq_true rfl) c
theorem g267_68 : rg Z d rx_m267 68 L (.int x :: S) (rz_mk h ι, w) = if x = 0 then rg Z d rx_m267 73 L S (rz_mk h ι, w) else rg Z d rx_m267 71 L S (rz_mk h ι, w) := rz_if1 (pc := 68) (t := 73) (off := 5) (cc := .eq) (by decide) rfl
theorem g267_71 : rg Z d rx_m267 71 L S (rz_mk h ι, w) = rg Z d rx_m267 72 L (.int 0 :: S) (rz_mk h ι, w) := rz_s1 fun _ => rfl
theorem g267_72 : rg Z d rx_m267 72 L [.int x] (rz_mk h ι, w) = some (.inl (some (.int x)), (rz_mk h ι, w)) := rz_reti rfl rfl rfl
theorem g267_73 : rg Z d rx_m267 73 L S (rz_mk h ι, w) = rg Z d rx_m267 74 L (.int 0 :: S) (rz_mk h ι, w) := rz_s1 fun _ => rfl
theorem g267_74 : rg Z d rx_m267 74 [l0, l1, l2, some (.int z), l4] (.int x :: S) (rz_mk h ι, w) = rg Z d rx_m267 76 [l0, l1, l2, some (.int z), some (.int x)] S (rz_mk h ι, w) := rz_s1 fun _ => rfl
theorem g267_76 : rg Z d rx_m267 76 [l0, l1, l2, l3, some (.int x)] S (rz_mk h ι, w) = rg Z d rx_m267 78 [l0, l1, l2, l3, some (.int x)] (.int x :: S) (rz_mk h ι, w) := rz_s1 fun _ => rfl
theorem g267_78 : rg Z d rx_m267 78 L S (rz_mk h ι, w) = rg Z d rx_m267 80 L (.int 99 :: S) (rz_mk h ι, w) := rz_s1 fun _ => rfl
theorem g267_80 : rg Z d rx_m267 80 L (.int y :: .int x :: S) (rz_mk h ι, w) = if x < y then rg Z d rx_m267 83 L S (rz_mk h ι, w) else rg Z d rx_m267 102 L S (rz_mk h ι, w) := rz_if2 (pc := 80) (t := 102) (off := 22) (cc := .ge) (by decide) rfl
theorem g267_83 : rg Z d rx_m267 83 [some (.ref a), l1, l2, l3, l4] S (rz_mk h ι, w) = rg Z d rx_m267 84 [some (.ref a), l1, l2, l3, l4] (.ref a :: S) (rz_mk h ι, w) := rz_s1 fun _ => rfl
theorem g267_84 : rg Z d rx_m267 84 [l0, l1, some (.int x), l3, l4] S (rz_mk h ι, w) = rg Z d rx_m267 85 [l0, l1, some (.int x), l3, l4] (.int x :: S) (rz_mk h ι, w) := rz_s1 fun _ => rfl
theorem g267_85 : rg Z d rx_m267 85 [l0, l1, l2, l3, some (.int x)] S (rz_mk h ι, w) = rg Z d rx_m267 87 [l0, l1, l2, l3, some (.int x)] (.int x :: S) (rz_mk h ι, w) := rz_s1 fun _ => rfl
theorem g267_87 : rg Z d rx_m267 87 L S (rz_mk h ι, w) = rg Z d rx_m267 88 L (.int 1 :: S) (rz_mk h ι, w) := rz_s1 fun _ => rfl
theorem g267_88 : rg Z d rx_m267 88 L (.int y :: .int x :: S) (rz_mk h ι, w) = rg Z d rx_m267 89 L (.int (x + y) :: S) (rz_mk h ι, w) := rz_s1 fun _ => rfl
theorem g267_89 (c : rz_oc h a 12) : rg Z d rx_m267 89 L (v2 :: v1 :: .ref a :: []) (rz_mk h ι, w) = rz_k true (rz_f Z d 266 [.ref a, v1, v2] (rz_mk h ι, w)) (fun v σ' => rg Z d rx_m267 92 L (v.toList ++ []) σ') := rz_cv (pc := 89) (n := 2) (mi := 266) (S := v2 :: v1 :: .ref a :: []) (rest := []) rfl rfl (Nat.le_of_ble_eq_true rfl) (Nat.le_of_ble_eq_true rfl) c
theorem g267_92 : rg Z d rx_m267 92 [l0, l1, l2, some (.int x), l4] S (rz_mk h ι, w) = rg Z d rx_m267 93 [l0, l1, l2, some (.int x), l4] (.int x :: S) (rz_mk h ι, w) := rz_s1 fun _ => rfl
theorem g267_93 : rg Z d rx_m267 93 L (.int y :: .int x :: S) (rz_mk h ι, w) = if y < x then rg Z d rx_m267 102 L S (rz_mk h ι, w) else rg Z d rx_m267 96 L S (rz_mk h ι, w) := rz_if2 (pc := 93) (t := 102) (off := 9) (cc := .gt) (by decide) rfl
theorem g267_96 : rg Z d rx_m267 96 [l0, l1, l2, some (.int z), some (.int x)] S (rz_mk h ι, w) = rg Z d rx_m267 99 [l0, l1, l2, some (.int z), some (.int (x + 1))] S (rz_mk h ι, w) := rz_s1 fun _ => rfl
theorem g267_99 : rg Z d rx_m267 99 L S (rz_mk h ι, w) = rg Z d rx_m267 76 L S (rz_mk h ι, w) := rz_s1 fun _ => rfl
theorem g267_102 : rg Z d rx_m267 102 [l0, l1, some (.int x), l3, l4] S (rz_mk h ι, w) = rg Z d rx_m267 103 [l0, l1, some (.int x), l3, l4] (.int x :: S) (rz_mk h ι, w) := rz_s1 fun _ => rfl
theorem g267_103 : rg Z d rx_m267 103 [l0, some (.int x), l2, l3, l4] S (rz_mk h ι, w) = rg Z d rx_m267 104 [l0, some (.int x), l2, l3, l4] (.int x :: S) (rz_mk h ι, w) := rz_s1 fun _ => rfl
theorem g267_104 : rg Z d rx_m267 104 L (v2 :: v1 :: []) (rz_mk h ι, w) = rz_k true (rz_f Z d 178 [v1, v2] (rz_mk h ι, w)) (fun v σ' => rg Z d rx_m267 107 L (v.toList ++ []) σ') := rz_cs (pc := 104) (n := 2) (mi := 178) (S := v2 :: v1 :: []) (rest := []) rfl rfl (Nat.le_of_ble_eq_true rfl) (Nat.le_of_ble_eq_true rfl)
theorem g267_107 : rg Z d rx_m267 107 L (.int x :: S) (rz_mk h ι, w) = if x = 0 then rg Z d rx_m267 123 L S (rz_mk h ι, w) else rg Z d rx_m267 110 L S (rz_mk h ι, w) := rz_if1 (pc := 107) (t := 123) (off := 16) (cc := .eq) (by decide) rfl
theorem g267_110 : rg Z d rx_m267 110 [l0, l1, l2, l3, some (.int x)] S (rz_mk h ι, w) = rg Z d rx_m267 112 [l0, l1, l2, l3, some (.int x)] (.int x :: S) (rz_mk h ι, w) := rz_s1 fun _ => rfl
theorem g267_112 : rg Z d rx_m267 112 [some (.ref a), l1, l2, l3, l4] S (rz_mk h ι, w) = rg Z d rx_m267 113 [some (.ref a), l1, l2, l3, l4] (.ref a :: S) (rz_mk h ι, w) := rz_s1 fun _ => rfl
theorem g267_113 : rg Z d rx_m267 113 [l0, some (.int x), l2, l3, l4] S (rz_mk h ι, w) = rg Z d rx_m267 114 [l0, some (.int x), l2, l3, l4] (.int x :: S) (rz_mk h ι, w) := rz_s1 fun _ => rfl
theorem g267_114 (c : rz_oc h a 12) : rg Z d rx_m267 114 L (v1 :: .ref a :: [.int s0]) (rz_mk h ι, w) = rz_k true (rz_f Z d 265 [.ref a, v1] (rz_mk h ι, w)) (fun v σ' => rg Z d rx_m267 117 L (v.toList ++ [.int s0]) σ') := rz_cv (pc := 114) (n := 1) (mi := 265) (S := v1 :: .ref a :: [.int s0]) (rest := [.int s0]) rfl rfl (Nat.le_of_ble_eq_true rfl) (Nat.le_of_ble_eq_true rfl) c
theorem g267_117 : rg Z d rx_m267 117 L (v2 :: v1 :: []) (rz_mk h ι, w) = rz_k true (rz_f Z d 176 [v1, v2] (rz_mk h ι, w)) (fun v σ' => rg Z d rx_m267 120 L (v.toList ++ []) σ') := rz_cs (pc := 117) (n := 2) (mi := 176) (S := v2 :: v1 :: []) (rest := []) rfl rfl (Nat.le_of_ble_eq_true rfl) (Nat.le_of_ble_eq_true rfl)
theorem g267_120 : rg Z d rx_m267 120 L S (rz_mk h ι, w) = rg Z d rx_m267 124 L S (rz_mk h ι, w) := rz_s1 fun _ => rfl
theorem g267_123 : rg Z d rx_m267 123 L S (rz_mk h ι, w) = rg Z d rx_m267 124 L (.int 0 :: S) (rz_mk h ι, w) := rz_s1 fun _ => rfl
theorem g267_124 : rg Z d rx_m267 124 L [.int x] (rz_mk h ι, w) = some (.inl (some (.int x)), (rz_mk h ι, w)) := rz_reti rfl rfl rfl
theorem e267 : rz_f Z (d + 1) 267 [.ref t0, .int s1, .int s2, .int s3] σ = rg Z d rx_m267 0 [some (.ref t0), some (.int s1), some (.int s2), some (.int s3), none] [] σ := rz_f_eq rfl (Nat.le_of_ble_eq_true rfl)
theorem g268_0 : rg Z d rx_m268 0 [some (.ref a), l1, l2, l3] S (rz_mk h ι, w) = rg Z d rx_m268 1 [some (.ref a), l1, l2, l3] (.ref a :: S) (rz_mk h ι, w) := rz_s1 fun _ => rfl
theorem g268_1 : rg Z d rx_m268 1 L S (rz_mk h ι, w) = rg Z d rx_m268 2 L (.int 0 :: S) (rz_mk h ι, w) := rz_s1 fun _ => rfl
theorem g268_2 (c : rz_fI h a 12 0) (hz : Z.2.1 ≤ a) : rg Z d rx_m268 2 L (.int x :: .ref a :: S) (rz_mk h ι, w) = rg Z d rx_m268 5 L S (rz_mk h (rz_up ι a 0 x), w) := rz_pI rfl c hz
theorem g268_5 : rg Z d rx_m268 5 [some (.ref a), l1, l2, l3] S (rz_mk h ι, w) = rg Z d rx_m268 6 [some (.ref a), l1, l2, l3] (.ref a :: S) (rz_mk h ι, w) := rz_s1 fun _ => rfl
theorem g268_6 : rg Z d rx_m268 6 [l0, some (.int x), l2, l3] S (rz_mk h ι, w) = rg Z d rx_m268 7 [l0, some (.int x), l2, l3] (.int x :: S) (rz_mk h ι, w) := rz_s1 fun _ => rfl
theorem g268_7 : rg Z d rx_m268 7 L S (rz_mk h ι, w) = rg Z d rx_m268 8 L (.int 0 :: S) (rz_mk h ι, w) := rz_s1 fun _ => rfl
theorem g268_8 : rg Z d rx_m268 8 L S (rz_mk h ι, w) = rg Z d rx_m268 9 L (.int 1 :: S) (rz_mk h ι, w) := rz_s1 fun _ => rfl
theorem g268_9 : rg Z d rx_m268 9 L (v3 :: v2 :: v1 :: [.ref t0]) (rz_mk h ι, w) = rz_k true (rz_f Z d 175 [v1, v2, v3] (rz_mk h ι, w)) (fun v σ' => rg Z d rx_m268 12 L (v.toList ++ [.ref t0]) σ') := rz_cs (pc := 9) (n := 3) (mi := 175) (S := v3 :: v2 :: v1 :: [.ref t0]) (rest := [.ref t0]) rfl rfl (Nat.le_of_ble_eq_true rfl) (Nat.le_of_ble_eq_true rfl)
theorem g268_12 : rg Z d rx_m268 12 L (.int x :: S) (rz_mk h ι, w) = if x = 0 then rg Z d rx_m268 15 L S (rz_mk h ι, w) else rg Z d rx_m268 19 L S (rz_mk h ι, w) := rz_if1 (pc := 12) (t := 19) (off := 7) (cc := .ne) (by decide) rfl
theorem g268_15 : rg Z d rx_m268 15 L S (rz_mk h ι, w) = rg Z d rx_m268 16 L (.int 1 :: S) (rz_mk h ι, w) := rz_s1 fun _ => rfl
theorem g268_16 : rg Z d rx_m268 16 L S (rz_mk h ι, w) = rg Z d rx_m268 20 L S (rz_mk h ι, w) := rz_s1 fun _ => rfl
theorem g268_19 : rg Z d rx_m268 19 L S (rz_mk h ι, w) = rg Z d rx_m268 20 L (.int 0 :: S) (rz_mk h ι, w) := rz_s1 fun _ => rfl
theorem g268_20 : rg Z d rx_m268 20 L S (rz_mk h ι, w) = rg Z d rx_m268 21 L (.int 1 :: S) (rz_mk h ι, w) := rz_s1 fun _ => rfl
theorem g268_21 : rg Z d rx_m268 21 L S (rz_mk h ι, w) = rg Z d rx_m268 22 L (.int 1 :: S) (rz_mk h ι, w) := rz_s1 fun _ => rfl
theorem g268_22 (c : rz_oc h a 12) : rg Z d rx_m268 22 L (v3 :: v2 :: v1 :: .ref a :: []) (rz_mk h ι, w) = rz_k true (rz_f Z d 174 [.ref a, v1, v2, v3] (rz_mk h ι, w)) (fun v σ' => rg Z d rx_m268 25 L (v.toList ++ []) σ') := rz_cv (pc := 22) (n := 3) (mi := 174) (S := v3 :: v2 :: v1 :: .ref a :: []) (rest := []) rfl rfl (Nat.le_of_ble_eq_true rfl) (Nat.le_of_ble_eq_true rfl) c
theorem g268_25 : rg Z d rx_m268 25 L (.int x :: S) (rz_mk h ι, w) = if x = 0 then rg Z d rx_m268 30 L S (rz_mk h ι, w) else rg Z d rx_m268 28 L S (rz_mk h ι, w) := rz_if1 (pc := 25) (t := 30) (off := 5) (cc := .eq) (by decide) rfl
theorem g268_28 : rg Z d rx_m268 28 L S (rz_mk h ι, w) = rg Z d rx_m268 29 L (.int 0 :: S) (rz_mk h ι, w) := rz_s1 fun _ => rfl
theorem g268_29 : rg Z d rx_m268 29 L [.int x] (rz_mk h ι, w) = some (.inl (some (.int x)), (rz_mk h ι, w)) := rz_reti rfl rfl rfl
theorem g268_30 : rg Z d rx_m268 30 L S (rz_mk h ι, w) = rg Z d rx_m268 31 L (.int (-1) :: S) (rz_mk h ι, w) := rz_s1 fun _ => rfl
theorem g268_31 : rg Z d rx_m268 31 [l0, some (.int z), l2, l3] (.int x :: S) (rz_mk h ι, w) = rg Z d rx_m268 32 [l0, some (.int z), some (.int x), l3] S (rz_mk h ι, w) := rz_s1 fun _ => rfl
theorem g268_32 : rg Z d rx_m268 32 L S (rz_mk h ι, w) = rg Z d rx_m268 33 L (.int 0 :: S) (rz_mk h ι, w) := rz_s1 fun _ => rfl
theorem g268_33 : rg Z d rx_m268 33 [l0, l1, some (.int z), l3] (.int x :: S) (rz_mk h ι, w) = rg Z d rx_m268 34 [l0, l1, some (.int z), some (.int x)] S (rz_mk h ι, w) := rz_s1 fun _ => rfl
theorem g268_34 : rg Z d rx_m268 34 [l0, l1, l2, some (.int x)] S (rz_mk h ι, w) = rg Z d rx_m268 35 [l0, l1, l2, some (.int x)] (.int x :: S) (rz_mk h ι, w) := rz_s1 fun _ => rfl
theorem g268_35 : rg Z d rx_m268 35 [some (.ref a), l1, l2, l3] S (rz_mk h ι, w) = rg Z d rx_m268 36 [some (.ref a), l1, l2, l3] (.ref a :: S) (rz_mk h ι, w) := rz_s1 fun _ => rfl
theorem g268_36 (c : rz_fR h a 12 25) : rg Z d rx_m268 36 L (.ref a :: S) (rz_mk h ι, w) = rg Z d rx_m268 39 L (rz_rv h a 25 :: S) (rz_mk h ι, w) := rz_gR rfl (by decide) c
theorem g268_39 : rg Z d rx_m268 39 L S (rz_mk h ι, w) = rg Z d rx_m268 41 L (.int 57 :: S) (rz_mk h ι, w) := rz_s1 fun _ => rfl
theorem g268_41 (c : rz_ar h a 0) (hi : rz_ix x (rz_ln h a)) : rg Z d rx_m268 41 L (.int x :: .ref a :: S) (rz_mk h ι, w) = rg Z d rx_m268 42 L (.int (ι a x.toNatClampNeg) :: S) (rz_mk h ι, w) := rz_iald rfl c hi
theorem g268_42 : rg Z d rx_m268 42 L (.int y :: .int x :: S) (rz_mk h ι, w) = if x < y then rg Z d rx_m268 45 L S (rz_mk h ι, w) else rg Z d rx_m268 94 L S (rz_mk h ι, w) := rz_if2 (pc := 42) (t := 94) (off := 52) (cc := .ge) (by decide) rfl
theorem g268_45 : rg Z d rx_m268 45 [some (.ref a), l1, l2, l3] S (rz_mk h ι, w) = rg Z d rx_m268 46 [some (.ref a), l1, l2, l3] (.ref a :: S) (rz_mk h ι, w) := rz_s1 fun _ => rfl
theorem g268_46 (c : rz_fR h a 12 25) : rg Z d rx_m268 46 L (.ref a :: S) (rz_mk h ι, w) = rg Z d rx_m268 49 L (rz_rv h a 25 :: S) (rz_mk h ι, w) := rz_gR rfl (by decide) c
theorem g268_49 : rg Z d rx_m268 49 [l0, l1, l2, some (.int x)] S (rz_mk h ι, w) = rg Z d rx_m268 50 [l0, l1, l2, some (.int x)] (.int x :: S) (rz_mk h ι, w) := rz_s1 fun _ => rfl
theorem g268_50 : rg Z d rx_m268 50 L (v2 :: v1 :: []) (rz_mk h ι, w) = rz_k true (rz_f Z d 222 [v1, v2] (rz_mk h ι, w)) (fun v σ' => rg Z d rx_m268 53 L (v.toList ++ []) σ') := rz_cs (pc := 50) (n := 2) (mi := 222) (S := v2 :: v1 :: []) (rest := []) rfl rfl (Nat.le_of_ble_eq_true rfl) (Nat.le_of_ble_eq_true rfl)
theorem g268_53 : rg Z d rx_m268 53 L (.int x :: S) (rz_mk h ι, w) = if x = 0 then rg Z d rx_m268 86 L S (rz_mk h ι, w) else rg Z d rx_m268 56 L S (rz_mk h ι, w) := rz_if1 (pc := 53) (t := 86) (off := 33) (cc := .eq) (by decide) rfl
theorem g268_56 : rg Z d rx_m268 56 [l0, l1, some (.int x), l3] S (rz_mk h ι, w) = rg Z d rx_m268 57 [l0, l1, some (.int x), l3] (.int x :: S) (rz_mk h ι, w) := rz_s1 fun _ => rfl
theorem g268_57 : rg Z d rx_m268 57 L S (rz_mk h ι, w) = rg Z d rx_m268 58 L (.int (-1) :: S) (rz_mk h ι, w) := rz_s1 fun _ => rfl
theorem g268_58 : rg Z d rx_m268 58 L (.int y :: .int x :: S) (rz_mk h ι, w) = if x = y then rg Z d rx_m268 82 L S (rz_mk h ι, w) else rg Z d rx_m268 61 L S (rz_mk h ι, w) := rz_if2 (pc := 58) (t := 82) (off := 24) (cc := .eq) (by decide) rfl
theorem g268_61 : rg Z d rx_m268 61 [some (.ref a), l1, l2, l3] S (rz_mk h ι, w) = rg Z d rx_m268 62 [some (.ref a), l1, l2, l3] (.ref a :: S) (rz_mk h ι, w) := rz_s1 fun _ => rfl
theorem g268_62 (c : rz_fR h a 12 25) : rg Z d rx_m268 62 L (.ref a :: S) (rz_mk h ι, w) = rg Z d rx_m268 65 L (rz_rv h a 25 :: S) (rz_mk h ι, w) := rz_gR rfl (by decide) c
theorem g268_65 : rg Z d rx_m268 65 L S (rz_mk h ι, w) = rg Z d rx_m268 67 L (.int 48 :: S) (rz_mk h ι, w) := rz_s1 fun _ => rfl
theorem g268_67 : rg Z d rx_m268 67 [l0, l1, l2, some (.int x)] S (rz_mk h ι, w) = rg Z d rx_m268 68 [l0, l1, l2, some (.int x)] (.int x :: S) (rz_mk h ι, w) := rz_s1 fun _ => rfl
theorem g268_68 : rg Z d rx_m268 68 L (.int y :: .int x :: S) (rz_mk h ι, w) = rg Z d rx_m268 69 L (.int (x + y) :: S) (rz_mk h ι, w) := rz_s1 fun _ => rfl
theorem g268_69 (c : rz_ar h a 0) (hi : rz_ix x (rz_ln h a)) : rg Z d rx_m268 69 L (.int x :: .ref a :: S) (rz_mk h ι, w) = rg Z d rx_m268 70 L (.int (ι a x.toNatClampNeg) :: S) (rz_mk h ι, w) := rz_iald rfl c hi
theorem g268_70 : rg Z d rx_m268 70 [some (.ref a), l1, l2, l3] S (rz_mk h ι, w) = rg Z d rx_m268 71 [some (.ref a), l1, l2, l3] (.ref a :: S) (rz_mk h ι, w) := rz_s1 fun _ => rfl
theorem g268_71 (c : rz_fR h a 12 25) : rg Z d rx_m268 71 L (.ref a :: S) (rz_mk h ι, w) = rg Z d rx_m268 74 L (rz_rv h a 25 :: S) (rz_mk h ι, w) := rz_gR rfl (by decide) c
theorem g268_74 : rg Z d rx_m268 74 L S (rz_mk h ι, w) = rg Z d rx_m268 76 L (.int 48 :: S) (rz_mk h ι, w) := rz_s1 fun _ => rfl
theorem g268_76 : rg Z d rx_m268 76 [l0, l1, some (.int x), l3] S (rz_mk h ι, w) = rg Z d rx_m268 77 [l0, l1, some (.int x), l3] (.int x :: S) (rz_mk h ι, w) := rz_s1 fun _ => rfl
theorem g268_77 : rg Z d rx_m268 77 L (.int y :: .int x :: S) (rz_mk h ι, w) = rg Z d rx_m268 78 L (.int (x + y) :: S) (rz_mk h ι, w) := rz_s1 fun _ => rfl
theorem g268_78 (c : rz_ar h a 0) (hi : rz_ix x (rz_ln h a)) : rg Z d rx_m268 78 L (.int x :: .ref a :: S) (rz_mk h ι, w) = rg Z d rx_m268 79 L (.int (ι a x.toNatClampNeg) :: S) (rz_mk h ι, w) := rz_iald rfl c hi
theorem g268_79 : rg Z d rx_m268 79 L (.int y :: .int x :: S) (rz_mk h ι, w) = if y < x then rg Z d rx_m268 82 L S (rz_mk h ι, w) else rg Z d rx_m268 86 L S (rz_mk h ι, w) := rz_if2 (pc := 79) (t := 86) (off := 7) (cc := .le) (by decide) rfl
theorem g268_82 : rg Z d rx_m268 82 [l0, l1, l2, some (.int x)] S (rz_mk h ι, w) = rg Z d rx_m268 83 [l0, l1, l2, some (.int x)] (.int x :: S) (rz_mk h ι, w) := rz_s1 fun _ => rfl
theorem g268_83 : rg Z d rx_m268 83 L S (rz_mk h ι, w) = rg Z d rx_m268 87 L S (rz_mk h ι, w) := rz_s1 fun _ => rfl
theorem g268_86 : rg Z d rx_m268 86 [l0, l1, some (.int x), l3] S (rz_mk h ι, w) = rg Z d rx_m268 87 [l0, l1, some (.int x), l3] (.int x :: S) (rz_mk h ι, w) := rz_s1 fun _ => rfl
theorem g268_87 : rg Z d rx_m268 87 [l0, some (.int z), l2, l3] (.int x :: S) (rz_mk h ι, w) = rg Z d rx_m268 88 [l0, some (.int z), some (.int x), l3] S (rz_mk h ι, w) := rz_s1 fun _ => rfl
theorem g268_88 : rg Z d rx_m268 88 [l0, l1, some (.int z), some (.int x)] S (rz_mk h ι, w) = rg Z d rx_m268 91 [l0, l1, some (.int z), some (.int (x + 1))] S (rz_mk h ι, w) := rz_s1 fun _ => rfl
theorem g268_91 : rg Z d rx_m268 91 L S (rz_mk h ι, w) = rg Z d rx_m268 34 L S (rz_mk h ι, w) := rz_s1 fun _ => rfl
theorem g268_94 : rg Z d rx_m268 94 [l0, some (.int x), l2, l3] S (rz_mk h ι, w) = rg Z d rx_m268 95 [l0, some (.int x), l2, l3] (.int x :: S) (rz_mk h ι, w) := rz_s1 fun _ => rfl
theorem g268_95 : rg Z d rx_m268 95 L (.int x :: S) (rz_mk h ι, w) = if x = 0 then rg Z d rx_m268 103 L S (rz_mk h ι, w) else rg Z d rx_m268 98 L S (rz_mk h ι, w) := rz_if1 (pc := 95) (t := 103) (off := 8) (cc := .eq) (by decide) rfl
theorem g268_98 : rg Z d rx_m268 98 [l0, l1, some (.int x), l3] S (rz_mk h ι, w) = rg Z d rx_m268 99 [l0, l1, some (.int x), l3] (.int x :: S) (rz_mk h ι, w) := rz_s1 fun _ => rfl
theorem g268_99 : rg Z d rx_m268 99 L S (rz_mk h ι, w) = rg Z d rx_m268 100 L (.int (-1) :: S) (rz_mk h ι, w) := rz_s1 fun _ => rfl
theorem g268_100 : rg Z d rx_m268 100 L (.int y :: .int x :: S) (rz_mk h ι, w) = if x = y then rg Z d rx_m268 103 L S (rz_mk h ι, w) else rg Z d rx_m268 107 L S (rz_mk h ι, w) := rz_if2 (pc := 100) (t := 107) (off := 7) (cc := .ne) (by decide) rfl
theorem g268_103 : rg Z d rx_m268 103 [l0, l1, some (.int x), l3] S (rz_mk h ι, w) = rg Z d rx_m268 104 [l0, l1, some (.int x), l3] (.int x :: S) (rz_mk h ι, w) := rz_s1 fun _ => rfl
theorem g268_104 : rg Z d rx_m268 104 L S (rz_mk h ι, w) = rg Z d rx_m268 116 L S (rz_mk h ι, w) := rz_s1 fun _ => rfl
theorem g268_107 : rg Z d rx_m268 107 [some (.ref a), l1, l2, l3] S (rz_mk h ι, w) = rg Z d rx_m268 108 [some (.ref a), l1, l2, l3] (.ref a :: S) (rz_mk h ι, w) := rz_s1 fun _ => rfl
theorem g268_108 (c : rz_fR h a 12 25) : rg Z d rx_m268 108 L (.ref a :: S) (rz_mk h ι, w) = rg Z d rx_m268 111 L (rz_rv h a 25 :: S) (rz_mk h ι, w) := rz_gR rfl (by decide) c
theorem g268_111 : rg Z d rx_m268 111 L S (rz_mk h ι, w) = rg Z d rx_m268 113 L (.int 48 :: S) (rz_mk h ι, w) := rz_s1 fun _ => rfl
theorem g268_113 : rg Z d rx_m268 113 [l0, l1, some (.int x), l3] S (rz_mk h ι, w) = rg Z d rx_m268 114 [l0, l1, some (.int x), l3] (.int x :: S) (rz_mk h ι, w) := rz_s1 fun _ => rfl
theorem g268_114 : rg Z d rx_m268 114 L (.int y :: .int x :: S) (rz_mk h ι, w) = rg Z d rx_m268 115 L (.int (x + y) :: S) (rz_mk h ι, w) := rz_s1 fun _ => rfl
theorem g268_115 (c : rz_ar h a 0) (hi : rz_ix x (rz_ln h a)) : rg Z d rx_m268 115 L (.int x :: .ref a :: S) (rz_mk h ι, w) = rg Z d rx_m268 116 L (.int (ι a x.toNatClampNeg) :: S) (rz_mk h ι, w) := rz_iald rfl c hi
theorem g268_116 : rg Z d rx_m268 116 L [.int x] (rz_mk h ι, w) = some (.inl (some (.int x)), (rz_mk h ι, w)) := rz_reti rfl rfl rfl
theorem e268 : rz_f Z (d + 1) 268 [.ref t0, .int s1] σ = rg Z d rx_m268 0 [some (.ref t0), some (.int s1), none, none] [] σ := rz_f_eq rfl (Nat.le_of_ble_eq_true rfl)
theorem g269_0 : rg Z d rx_m269 0 [some (.ref a), l1, l2] S (rz_mk h ι, w) = rg Z d rx_m269 1 [some (.ref a), l1, l2] (.ref a :: S) (rz_mk h ι, w) := rz_s1 fun _ => rfl
theorem g269_1 (c : rz_fR h a 12 25) : rg Z d rx_m269 1 L (.ref a :: S) (rz_mk h ι, w) = rg Z d rx_m269 4 L (rz_rv h a 25 :: S) (rz_mk h ι, w) := rz_gR rfl (by decide) c
theorem g269_4 : rg Z d rx_m269 4 [l0, some (.int x), l2] S (rz_mk h ι, w) = rg Z d rx_m269 5 [l0, some (.int x), l2] (.int x :: S) (rz_mk h ι, w) := rz_s1 fun _ => rfl
theorem g269_5 : rg Z d rx_m269 5 L S (rz_mk h ι, w) = rg Z d rx_m269 6 L (.int 0 :: S) (rz_mk h ι, w) := rz_s1 fun _ => rfl
theorem g269_6 : rg Z d rx_m269 6 L (v3 :: v2 :: v1 :: []) (rz_mk h ι, w) = rz_k true (rz_f Z d 217 [v1, v2, v3] (rz_mk h ι, w)) (fun v σ' => rg Z d rx_m269 9 L (v.toList ++ []) σ') := rz_cs (pc := 6) (n := 3) (mi := 217) (S := v3 :: v2 :: v1 :: []) (rest := []) rfl rfl (Nat.le_of_ble_eq_true rfl) (Nat.le_of_ble_eq_true rfl)
theorem g269_9 : rg Z d rx_m269 9 [some (.ref a), l1, l2] S (rz_mk h ι, w) = rg Z d rx_m269 10 [some (.ref a), l1, l2] (.ref a :: S) (rz_mk h ι, w) := rz_s1 fun _ => rfl
theorem g269_10 (c : rz_fR h a 12 25) : rg Z d rx_m269 10 L (.ref a :: S) (rz_mk h ι, w) = rg Z d rx_m269 13 L (rz_rv h a 25 :: S) (rz_mk h ι, w) := rz_gR rfl (by decide) c
theorem g269_13 : rg Z d rx_m269 13 [l0, l1, some (.int x)] S (rz_mk h ι, w) = rg Z d rx_m269 14 [l0, l1, some (.int x)] (.int x :: S) (rz_mk h ι, w) := rz_s1 fun _ => rfl
theorem g269_14 : rg Z d rx_m269 14 L S (rz_mk h ι, w) = rg Z d rx_m269 15 L (.int 0 :: S) (rz_mk h ι, w) := rz_s1 fun _ => rfl
theorem g269_15 : rg Z d rx_m269 15 L (v3 :: v2 :: v1 :: [.int s0]) (rz_mk h ι, w) = rz_k true (rz_f Z d 217 [v1, v2, v3] (rz_mk h ι, w)) (fun v σ' => rg Z d rx_m269 18 L (v.toList ++ [.int s0]) σ') := rz_cs (pc := 15) (n := 3) (mi := 217) (S := v3 :: v2 :: v1 :: [.int s0]) (rest := [.int s0]) rfl rfl (Nat.le_of_ble_eq_true rfl) (Nat.le_of_ble_eq_true rfl)
theorem g269_18 : rg Z d rx_m269 18 L (.int y :: .int x :: S) (rz_mk h ι, w) = if x = y then rg Z d rx_m269 21 L S (rz_mk h ι, w) else rg Z d rx_m269 67 L S (rz_mk h ι, w) := rz_if2 (pc := 18) (t := 67) (off := 49) (cc := .ne) (by decide) rfl
theorem g269_21 : rg Z d rx_m269 21 [some (.ref a), l1, l2] S (rz_mk h ι, w) = rg Z d rx_m269 22 [some (.ref a), l1, l2] (.ref a :: S) (rz_mk h ι, w) := rz_s1 fun _ => rfl
theorem g269_22 (c : rz_fR h a 12 25) : rg Z d rx_m269 22 L (.ref a :: S) (rz_mk h ι, w) = rg Z d rx_m269 25 L (rz_rv h a 25 :: S) (rz_mk h ι, w) := rz_gR rfl (by decide) c
theorem g269_25 : rg Z d rx_m269 25 [l0, some (.int x), l2] S (rz_mk h ι, w) = rg Z d rx_m269 26 [l0, some (.int x), l2] (.int x :: S) (rz_mk h ι, w) := rz_s1 fun _ => rfl
theorem g269_26 : rg Z d rx_m269 26 L S (rz_mk h ι, w) = rg Z d rx_m269 27 L (.int 1 :: S) (rz_mk h ι, w) := rz_s1 fun _ => rfl
theorem g269_27 : rg Z d rx_m269 27 L (v3 :: v2 :: v1 :: []) (rz_mk h ι, w) = rz_k true (rz_f Z d 217 [v1, v2, v3] (rz_mk h ι, w)) (fun v σ' => rg Z d rx_m269 30 L (v.toList ++ []) σ') := rz_cs (pc := 27) (n := 3) (mi := 217) (S := v3 :: v2 :: v1 :: []) (rest := []) rfl rfl (Nat.le_of_ble_eq_true rfl) (Nat.le_of_ble_eq_true rfl)
theorem g269_30 : rg Z d rx_m269 30 [some (.ref a), l1, l2] S (rz_mk h ι, w) = rg Z d rx_m269 31 [some (.ref a), l1, l2] (.ref a :: S) (rz_mk h ι, w) := rz_s1 fun _ => rfl
theorem g269_31 (c : rz_fR h a 12 25) : rg Z d rx_m269 31 L (.ref a :: S) (rz_mk h ι, w) = rg Z d rx_m269 34 L (rz_rv h a 25 :: S) (rz_mk h ι, w) := rz_gR rfl (by decide) c
theorem g269_34 : rg Z d rx_m269 34 [l0, l1, some (.int x)] S (rz_mk h ι, w) = rg Z d rx_m269 35 [l0, l1, some (.int x)] (.int x :: S) (rz_mk h ι, w) := rz_s1 fun _ => rfl
theorem g269_35 : rg Z d rx_m269 35 L S (rz_mk h ι, w) = rg Z d rx_m269 36 L (.int 1 :: S) (rz_mk h ι, w) := rz_s1 fun _ => rfl
theorem g269_36 : rg Z d rx_m269 36 L (v3 :: v2 :: v1 :: [.int s0]) (rz_mk h ι, w) = rz_k true (rz_f Z d 217 [v1, v2, v3] (rz_mk h ι, w)) (fun v σ' => rg Z d rx_m269 39 L (v.toList ++ [.int s0]) σ') := rz_cs (pc := 36) (n := 3) (mi := 217) (S := v3 :: v2 :: v1 :: [.int s0]) (rest := [.int s0]) rfl rfl (Nat.le_of_ble_eq_true rfl) (Nat.le_of_ble_eq_true rfl)
theorem g269_39 : rg Z d rx_m269 39 L (.int y :: .int x :: S) (rz_mk h ι, w) = if x = y then rg Z d rx_m269 42 L S (rz_mk h ι, w) else rg Z d rx_m269 67 L S (rz_mk h ι, w) := rz_if2 (pc := 39) (t := 67) (off := 28) (cc := .ne) (by decide) rfl
theorem g269_42 : rg Z d rx_m269 42 [some (.ref a), l1, l2] S (rz_mk h ι, w) = rg Z d rx_m269 43 [some (.ref a), l1, l2] (.ref a :: S) (rz_mk h ι, w) := rz_s1 fun _ => rfl
theorem g269_43 (c : rz_fR h a 12 25) : rg Z d rx_m269 43 L (.ref a :: S) (rz_mk h ι, w) = rg Z d rx_m269 46 L (rz_rv h a 25 :: S) (rz_mk h ι, w) := rz_gR rfl (by decide) c
theorem g269_46 : rg Z d rx_m269 46 [l0, some (.int x), l2] S (rz_mk h ι, w) = rg Z d rx_m269 47 [l0, some (.int x), l2] (.int x :: S) (rz_mk h ι, w) := rz_s1 fun _ => rfl
theorem g269_47 : rg Z d rx_m269 47 L S (rz_mk h ι, w) = rg Z d rx_m269 48 L (.int 2 :: S) (rz_mk h ι, w) := rz_s1 fun _ => rfl
theorem g269_48 : rg Z d rx_m269 48 L (v3 :: v2 :: v1 :: []) (rz_mk h ι, w) = rz_k true (rz_f Z d 217 [v1, v2, v3] (rz_mk h ι, w)) (fun v σ' => rg Z d rx_m269 51 L (v.toList ++ []) σ') := rz_cs (pc := 48) (n := 3) (mi := 217) (S := v3 :: v2 :: v1 :: []) (rest := []) rfl rfl (Nat.le_of_ble_eq_true rfl) (Nat.le_of_ble_eq_true rfl)
theorem g269_51 : rg Z d rx_m269 51 [some (.ref a), l1, l2] S (rz_mk h ι, w) = rg Z d rx_m269 52 [some (.ref a), l1, l2] (.ref a :: S) (rz_mk h ι, w) := rz_s1 fun _ => rfl
theorem g269_52 (c : rz_fR h a 12 25) : rg Z d rx_m269 52 L (.ref a :: S) (rz_mk h ι, w) = rg Z d rx_m269 55 L (rz_rv h a 25 :: S) (rz_mk h ι, w) := rz_gR rfl (by decide) c
theorem g269_55 : rg Z d rx_m269 55 [l0, l1, some (.int x)] S (rz_mk h ι, w) = rg Z d rx_m269 56 [l0, l1, some (.int x)] (.int x :: S) (rz_mk h ι, w) := rz_s1 fun _ => rfl
theorem g269_56 : rg Z d rx_m269 56 L S (rz_mk h ι, w) = rg Z d rx_m269 57 L (.int 2 :: S) (rz_mk h ι, w) := rz_s1 fun _ => rfl
theorem g269_57 : rg Z d rx_m269 57 L (v3 :: v2 :: v1 :: [.int s0]) (rz_mk h ι, w) = rz_k true (rz_f Z d 217 [v1, v2, v3] (rz_mk h ι, w)) (fun v σ' => rg Z d rx_m269 60 L (v.toList ++ [.int s0]) σ') := rz_cs (pc := 57) (n := 3) (mi := 217) (S := v3 :: v2 :: v1 :: [.int s0]) (rest := [.int s0]) rfl rfl (Nat.le_of_ble_eq_true rfl) (Nat.le_of_ble_eq_true rfl)
theorem g269_60 : rg Z d rx_m269 60 L (.int y :: .int x :: S) (rz_mk h ι, w) = if x = y then rg Z d rx_m269 63 L S (rz_mk h ι, w) else rg Z d rx_m269 67 L S (rz_mk h ι, w) := rz_if2 (pc := 60) (t := 67) (off := 7) (cc := .ne) (by decide) rfl
theorem g269_63 : rg Z d rx_m269 63 L S (rz_mk h ι, w) = rg Z d rx_m269 64 L (.int 1 :: S) (rz_mk h ι, w) := rz_s1 fun _ => rfl
theorem g269_64 : rg Z d rx_m269 64 L S (rz_mk h ι, w) = rg Z d rx_m269 68 L S (rz_mk h ι, w) := rz_s1 fun _ => rfl
theorem g269_67 : rg Z d rx_m269 67 L S (rz_mk h ι, w) = rg Z d rx_m269 68 L (.int 0 :: S) (rz_mk h ι, w) := rz_s1 fun _ => rfl
theorem g269_68 (c : narrow .boolean (.int x) = .int x) : rg Z d rx_m269 68 L [.int x] (rz_mk h ι, w) = some (.inl (some (.int x)), (rz_mk h ι, w)) := rz_reti rfl rfl c
theorem e269 : rz_f Z (d + 1) 269 [.ref t0, .int s1, .int s2] σ = rg Z d rx_m269 0 [some (.ref t0), some (.int s1), some (.int s2)] [] σ := rz_f_eq rfl (Nat.le_of_ble_eq_true rfl)
end RZG
