/-! each instruction, one step (written by program) -/
section RZG
variable {Z : rx_Z} {d : Nat} {S : List Value} {L : rx_L} {σ : rx_S} {h : Nat → Option rx_E} {ι : Nat → Nat → Int32} {w : Nat × Nat} {a b t0 t1 t2 t3 t4 t5 t6 t7 t8 : Nat} {x y z s0 s1 s2 s3 s4 s5 s6 s7 s8 s9 s10 : Int32} {p q q0 q1 q2 q3 : Int64} {v v1 v2 v3 v4 v5 v6 v7 v8 v9 v10 : Value} {l0 l1 l2 l3 l4 l5 l6 l7 l8 l9 l10 l11 l12 l13 l14 : Option Value}
theorem g211_0 : rg Z d rx_m211 0 [some (.ref a), l1, l2] S (rz_mk h ι, w) = rg Z d rx_m211 1 [some (.ref a), l1, l2] (.ref a :: S) (rz_mk h ι, w) := rz_s1 fun _ => rfl
theorem g211_1 (c : rz_oc h a 12) : rg Z d rx_m211 1 L (.ref a :: []) (rz_mk h ι, w) = rz_k true (rz_f Z d 210 [.ref a] (rz_mk h ι, w)) (fun v σ' => rg Z d rx_m211 4 L (v.toList ++ []) σ') := rz_cv (pc := 1) (n := 0) (mi := 210) (S := .ref a :: []) (rest := []) rfl rfl (Nat.le_of_ble_eq_true rfl) (Nat.le_of_ble_eq_true rfl) c
theorem g211_4 : rg Z d rx_m211 4 [some (.ref b), l1, l2] (.int x :: S) (rz_mk h ι, w) = rg Z d rx_m211 5 [some (.ref b), some (.int x), l2] S (rz_mk h ι, w) := rz_s1 fun _ => rfl
theorem g211_5 : rg Z d rx_m211 5 [l0, some (.int x), l2] S (rz_mk h ι, w) = rg Z d rx_m211 6 [l0, some (.int x), l2] (.int x :: S) (rz_mk h ι, w) := rz_s1 fun _ => rfl
theorem g211_6 : rg Z d rx_m211 6 L S (rz_mk h ι, w) = rg Z d rx_m211 7 L (.int (-1) :: S) (rz_mk h ι, w) := rz_s1 fun _ => rfl
theorem g211_7 : rg Z d rx_m211 7 L (.int y :: .int x :: S) (rz_mk h ι, w) = if x = y then rg Z d rx_m211 10 L S (rz_mk h ι, w) else rg Z d rx_m211 19 L S (rz_mk h ι, w) := rz_if2 (pc := 7) (t := 19) (off := 12) (cc := .ne) (by decide) rfl
theorem g211_10 : rg Z d rx_m211 10 [some (.ref a), l1, l2] S (rz_mk h ι, w) = rg Z d rx_m211 11 [some (.ref a), l1, l2] (.ref a :: S) (rz_mk h ι, w) := rz_s1 fun _ => rfl
theorem g211_11 : rg Z d rx_m211 11 L S (rz_mk h ι, w) = rg Z d rx_m211 12 L (.int 1 :: S) (rz_mk h ι, w) := rz_s1 fun _ => rfl
theorem g211_12 : rg Z d rx_m211 12 [some (.ref a), l1, l2] S (rz_mk h ι, w) = rg Z d rx_m211 13 [some (.ref a), l1, l2] (.ref a :: S) (rz_mk h ι, w) := rz_s1 fun _ => rfl
theorem g211_13 (c : rz_fI h a 12 4) : rg Z d rx_m211 13 L (.ref a :: S) (rz_mk h ι, w) = rg Z d rx_m211 16 L (.int (ι a 4) :: S) (rz_mk h ι, w) := rz_gI rfl (by decide) c
theorem g211_16 (c : rz_oc h a 12) : rg Z d rx_m211 16 L (v2 :: v1 :: .ref a :: []) (rz_mk h ι, w) = rz_k true (rz_f Z d 182 [.ref a, v1, v2] (rz_mk h ι, w)) (fun v σ' => rg Z d rx_m211 19 L (v.toList ++ []) σ') := rz_cv (pc := 16) (n := 2) (mi := 182) (S := v2 :: v1 :: .ref a :: []) (rest := []) rfl rfl (Nat.le_of_ble_eq_true rfl) (Nat.le_of_ble_eq_true rfl) c
theorem g211_19 : rg Z d rx_m211 19 [l0, some (.int x), l2] S (rz_mk h ι, w) = rg Z d rx_m211 20 [l0, some (.int x), l2] (.int x :: S) (rz_mk h ι, w) := rz_s1 fun _ => rfl
theorem g211_20 : rg Z d rx_m211 20 L S (rz_mk h ι, w) = rg Z d rx_m211 21 L (.int 5 :: S) (rz_mk h ι, w) := rz_s1 fun _ => rfl
theorem g211_21 : rg Z d rx_m211 21 L (.int y :: .int x :: S) (rz_mk h ι, w) = if x = y then rg Z d rx_m211 24 L S (rz_mk h ι, w) else rg Z d rx_m211 32 L S (rz_mk h ι, w) := rz_if2 (pc := 21) (t := 32) (off := 11) (cc := .ne) (by decide) rfl
theorem g211_24 : rg Z d rx_m211 24 [some (.ref a), l1, l2] S (rz_mk h ι, w) = rg Z d rx_m211 25 [some (.ref a), l1, l2] (.ref a :: S) (rz_mk h ι, w) := rz_s1 fun _ => rfl
theorem g211_25 (c : rz_oc h a 12) : rg Z d rx_m211 25 L (.ref a :: []) (rz_mk h ι, w) = rz_k true (rz_f Z d 202 [.ref a] (rz_mk h ι, w)) (fun v σ' => rg Z d rx_m211 28 L (v.toList ++ []) σ') := rz_cv (pc := 25) (n := 0) (mi := 202) (S := .ref a :: []) (rest := []) rfl rfl (Nat.le_of_ble_eq_true rfl) (Nat.le_of_ble_eq_true rfl) c
theorem g211_28 : rg Z d rx_m211 28 L (.int x :: S) (rz_mk h ι, w) = if x = 0 then rg Z d rx_m211 31 L S (rz_mk h ι, w) else rg Z d rx_m211 32 L S (rz_mk h ι, w) := rz_if1 (pc := 28) (t := 32) (off := 4) (cc := .ne) (by decide) rfl
theorem g211_31 : rg Z d rx_m211 31 L [] (rz_mk h ι, w) = some (.inl none, (rz_mk h ι, w)) := rz_r1 fun _ => rfl
theorem g211_32 : rg Z d rx_m211 32 [some (.ref a), l1, l2] S (rz_mk h ι, w) = rg Z d rx_m211 33 [some (.ref a), l1, l2] (.ref a :: S) (rz_mk h ι, w) := rz_s1 fun _ => rfl
theorem g211_33 (c : rz_fI h a 12 5) : rg Z d rx_m211 33 L (.ref a :: S) (rz_mk h ι, w) = rg Z d rx_m211 36 L (.int (ι a 5) :: S) (rz_mk h ι, w) := rz_gI rfl (by decide) c
theorem g211_36 : rg Z d rx_m211 36 L (.int x :: S) (rz_mk h ι, w) = if x = 0 then rg Z d rx_m211 40 L S (rz_mk h ι, w) else rg Z d rx_m211 39 L S (rz_mk h ι, w) := rz_if1 (pc := 36) (t := 40) (off := 4) (cc := .eq) (by decide) rfl
theorem g211_39 : rg Z d rx_m211 39 L [] (rz_mk h ι, w) = some (.inl none, (rz_mk h ι, w)) := rz_r1 fun _ => rfl
theorem g211_40 : rg Z d rx_m211 40 [some (.ref a), l1, l2] S (rz_mk h ι, w) = rg Z d rx_m211 41 [some (.ref a), l1, l2] (.ref a :: S) (rz_mk h ι, w) := rz_s1 fun _ => rfl
theorem g211_41 (c : rz_oc h a 12) : rg Z d rx_m211 41 L (.ref a :: []) (rz_mk h ι, w) = rz_k true (rz_f Z d 189 [.ref a] (rz_mk h ι, w)) (fun v σ' => rg Z d rx_m211 44 L (v.toList ++ []) σ') := rz_cv (pc := 41) (n := 0) (mi := 189) (S := .ref a :: []) (rest := []) rfl rfl (Nat.le_of_ble_eq_true rfl) (Nat.le_of_ble_eq_true rfl) c
theorem g211_44 : rg Z d rx_m211 44 [some (.ref a), l1, l2] S (rz_mk h ι, w) = rg Z d rx_m211 45 [some (.ref a), l1, l2] (.ref a :: S) (rz_mk h ι, w) := rz_s1 fun _ => rfl
theorem g211_45 (c : rz_fR h a 12 23) : rg Z d rx_m211 45 L (.ref a :: S) (rz_mk h ι, w) = rg Z d rx_m211 48 L (rz_rv h a 23 :: S) (rz_mk h ι, w) := rz_gR rfl (by decide) c
theorem g211_48 : rg Z d rx_m211 48 [some (.ref a), l1, l2] S (rz_mk h ι, w) = rg Z d rx_m211 49 [some (.ref a), l1, l2] (.ref a :: S) (rz_mk h ι, w) := rz_s1 fun _ => rfl
theorem g211_49 (c : rz_fI h a 12 24) : rg Z d rx_m211 49 L (.ref a :: S) (rz_mk h ι, w) = rg Z d rx_m211 52 L (.int (ι a 24) :: S) (rz_mk h ι, w) := rz_gI rfl (by decide) c
theorem g211_52 (c : rz_ar h a 3) (hi : rz_ix x (rz_ln h a)) : rg Z d rx_m211 52 L (.int x :: .ref a :: S) (rz_mk h ι, w) = rg Z d rx_m211 53 L (rz_el h a x.toNatClampNeg :: S) (rz_mk h ι, w) := rz_aald (by decide) rfl c hi
theorem g211_53 : rg Z d rx_m211 53 [l0, some (.int z), l2] (.ref a :: S) (rz_mk h ι, w) = rg Z d rx_m211 54 [l0, some (.int z), some (.ref a)] S (rz_mk h ι, w) := rz_s1 fun _ => rfl
theorem g211_54 : rg Z d rx_m211 54 [some (.ref a), l1, l2] S (rz_mk h ι, w) = rg Z d rx_m211 55 [some (.ref a), l1, l2] (.ref a :: S) (rz_mk h ι, w) := rz_s1 fun _ => rfl
theorem g211_55 : rg Z d rx_m211 55 L (.ref a :: S) (rz_mk h ι, w) = rg Z d rx_m211 56 L (.ref a :: .ref a :: S) (rz_mk h ι, w) := rz_s1 fun _ => rfl
theorem g211_56 (c : rz_fI h a 12 24) : rg Z d rx_m211 56 L (.ref a :: S) (rz_mk h ι, w) = rg Z d rx_m211 59 L (.int (ι a 24) :: S) (rz_mk h ι, w) := rz_gI rfl (by decide) c
theorem g211_59 : rg Z d rx_m211 59 L S (rz_mk h ι, w) = rg Z d rx_m211 60 L (.int 1 :: S) (rz_mk h ι, w) := rz_s1 fun _ => rfl
theorem g211_60 : rg Z d rx_m211 60 L (.int y :: .int x :: S) (rz_mk h ι, w) = rg Z d rx_m211 61 L (.int (x + y) :: S) (rz_mk h ι, w) := rz_s1 fun _ => rfl
theorem g211_61 (c : rz_fI h a 12 24) (hz : Z.2.1 ≤ a) : rg Z d rx_m211 61 L (.int x :: .ref a :: S) (rz_mk h ι, w) = rg Z d rx_m211 64 L S (rz_mk h (rz_up ι a 24 x), w) := rz_pI rfl c hz
theorem g211_64 : rg Z d rx_m211 64 [l0, l1, some (.ref a)] S (rz_mk h ι, w) = rg Z d rx_m211 65 [l0, l1, some (.ref a)] (.ref a :: S) (rz_mk h ι, w) := rz_s1 fun _ => rfl
theorem g211_65 : rg Z d rx_m211 65 L S (rz_mk h ι, w) = rg Z d rx_m211 66 L (.int 0 :: S) (rz_mk h ι, w) := rz_s1 fun _ => rfl
theorem g211_66 : rg Z d rx_m211 66 [l0, some (.int x), l2] S (rz_mk h ι, w) = rg Z d rx_m211 67 [l0, some (.int x), l2] (.int x :: S) (rz_mk h ι, w) := rz_s1 fun _ => rfl
theorem g211_67 (c : rz_ar h a 0) (hi : rz_ix x (rz_ln h a)) (hz : Z.2.1 ≤ a) : rg Z d rx_m211 67 L (.int y :: .int x :: .ref a :: S) (rz_mk h ι, w) = rg Z d rx_m211 68 L S (rz_mk h (rz_up ι a x.toNatClampNeg y), w) := rz_iast rfl c hi hz
theorem g211_68 : rg Z d rx_m211 68 [l0, some (.int x), l2] S (rz_mk h ι, w) = rg Z d rx_m211 69 [l0, some (.int x), l2] (.int x :: S) (rz_mk h ι, w) := rz_s1 fun _ => rfl
theorem g211_69 : rg Z d rx_m211 69 L S (rz_mk h ι, w) = rg Z d rx_m211 70 L (.int 4 :: S) (rz_mk h ι, w) := rz_s1 fun _ => rfl
theorem g211_70 : rg Z d rx_m211 70 L (.int y :: .int x :: S) (rz_mk h ι, w) = if x < y then rg Z d rx_m211 73 L S (rz_mk h ι, w) else rg Z d rx_m211 83 L S (rz_mk h ι, w) := rz_if2 (pc := 70) (t := 83) (off := 13) (cc := .ge) (by decide) rfl
theorem g211_73 : rg Z d rx_m211 73 [l0, l1, some (.ref a)] S (rz_mk h ι, w) = rg Z d rx_m211 74 [l0, l1, some (.ref a)] (.ref a :: S) (rz_mk h ι, w) := rz_s1 fun _ => rfl
theorem g211_74 : rg Z d rx_m211 74 L S (rz_mk h ι, w) = rg Z d rx_m211 75 L (.int 1 :: S) (rz_mk h ι, w) := rz_s1 fun _ => rfl
theorem g211_75 : rg Z d rx_m211 75 [some (.ref a), l1, l2] S (rz_mk h ι, w) = rg Z d rx_m211 76 [some (.ref a), l1, l2] (.ref a :: S) (rz_mk h ι, w) := rz_s1 fun _ => rfl
theorem g211_76 : rg Z d rx_m211 76 L S (rz_mk h ι, w) = rg Z d rx_m211 77 L (.int 0 :: S) (rz_mk h ι, w) := rz_s1 fun _ => rfl
theorem g211_77 : rg Z d rx_m211 77 L S (rz_mk h ι, w) = rg Z d rx_m211 79 L (.int 7 :: S) (rz_mk h ι, w) := rz_s1 fun _ => rfl
theorem g211_79 (c : rz_oc h a 12) : rg Z d rx_m211 79 L (v2 :: v1 :: .ref a :: [.int s0, .ref t1]) (rz_mk h ι, w) = rz_k true (rz_f Z d 185 [.ref a, v1, v2] (rz_mk h ι, w)) (fun v σ' => rg Z d rx_m211 82 L (v.toList ++ [.int s0, .ref t1]) σ') := rz_cv (pc := 79) (n := 2) (mi := 185) (S := v2 :: v1 :: .ref a :: [.int s0, .ref t1]) (rest := [.int s0, .ref t1]) rfl rfl (Nat.le_of_ble_eq_true rfl) (Nat.le_of_ble_eq_true rfl) c
theorem g211_82 (c : rz_ar h a 0) (hi : rz_ix x (rz_ln h a)) (hz : Z.2.1 ≤ a) : rg Z d rx_m211 82 L (.int y :: .int x :: .ref a :: S) (rz_mk h ι, w) = rg Z d rx_m211 83 L S (rz_mk h (rz_up ι a x.toNatClampNeg y), w) := rz_iast rfl c hi hz
theorem g211_83 : rg Z d rx_m211 83 [l0, some (.int x), l2] S (rz_mk h ι, w) = rg Z d rx_m211 84 [l0, some (.int x), l2] (.int x :: S) (rz_mk h ι, w) := rz_s1 fun _ => rfl
theorem g211_84 : rg Z d rx_m211 84 L (.int x :: S) (rz_mk h ι, w) = if x = 0 then rg Z d rx_m211 87 L S (rz_mk h ι, w) else rg Z d rx_m211 106 L S (rz_mk h ι, w) := rz_if1 (pc := 84) (t := 106) (off := 22) (cc := .ne) (by decide) rfl
theorem g211_87 : rg Z d rx_m211 87 [l0, l1, some (.ref a)] S (rz_mk h ι, w) = rg Z d rx_m211 88 [l0, l1, some (.ref a)] (.ref a :: S) (rz_mk h ι, w) := rz_s1 fun _ => rfl
theorem g211_88 : rg Z d rx_m211 88 L S (rz_mk h ι, w) = rg Z d rx_m211 89 L (.int 2 :: S) (rz_mk h ι, w) := rz_s1 fun _ => rfl
theorem g211_89 : rg Z d rx_m211 89 [some (.ref a), l1, l2] S (rz_mk h ι, w) = rg Z d rx_m211 90 [some (.ref a), l1, l2] (.ref a :: S) (rz_mk h ι, w) := rz_s1 fun _ => rfl
theorem g211_90 : rg Z d rx_m211 90 L S (rz_mk h ι, w) = rg Z d rx_m211 91 L (.int 0 :: S) (rz_mk h ι, w) := rz_s1 fun _ => rfl
theorem g211_91 : rg Z d rx_m211 91 L S (rz_mk h ι, w) = rg Z d rx_m211 92 L (.int 2 :: S) (rz_mk h ι, w) := rz_s1 fun _ => rfl
theorem g211_92 (c : rz_oc h a 12) : rg Z d rx_m211 92 L (v2 :: v1 :: .ref a :: [.int s0, .ref t1]) (rz_mk h ι, w) = rz_k true (rz_f Z d 185 [.ref a, v1, v2] (rz_mk h ι, w)) (fun v σ' => rg Z d rx_m211 95 L (v.toList ++ [.int s0, .ref t1]) σ') := rz_cv (pc := 92) (n := 2) (mi := 185) (S := v2 :: v1 :: .ref a :: [.int s0, .ref t1]) (rest := [.int s0, .ref t1]) rfl rfl (Nat.le_of_ble_eq_true rfl) (Nat.le_of_ble_eq_true rfl) c
theorem g211_95 (c : rz_ar h a 0) (hi : rz_ix x (rz_ln h a)) (hz : Z.2.1 ≤ a) : rg Z d rx_m211 95 L (.int y :: .int x :: .ref a :: S) (rz_mk h ι, w) = rg Z d rx_m211 96 L S (rz_mk h (rz_up ι a x.toNatClampNeg y), w) := rz_iast rfl c hi hz
theorem g211_96 : rg Z d rx_m211 96 [l0, l1, some (.ref a)] S (rz_mk h ι, w) = rg Z d rx_m211 97 [l0, l1, some (.ref a)] (.ref a :: S) (rz_mk h ι, w) := rz_s1 fun _ => rfl
theorem g211_97 : rg Z d rx_m211 97 L S (rz_mk h ι, w) = rg Z d rx_m211 98 L (.int 3 :: S) (rz_mk h ι, w) := rz_s1 fun _ => rfl
theorem g211_98 : rg Z d rx_m211 98 [some (.ref a), l1, l2] S (rz_mk h ι, w) = rg Z d rx_m211 99 [some (.ref a), l1, l2] (.ref a :: S) (rz_mk h ι, w) := rz_s1 fun _ => rfl
theorem g211_99 : rg Z d rx_m211 99 L S (rz_mk h ι, w) = rg Z d rx_m211 100 L (.int 0 :: S) (rz_mk h ι, w) := rz_s1 fun _ => rfl
theorem g211_100 : rg Z d rx_m211 100 L S (rz_mk h ι, w) = rg Z d rx_m211 102 L (.int 9 :: S) (rz_mk h ι, w) := rz_s1 fun _ => rfl
theorem g211_102 (c : rz_oc h a 12) : rg Z d rx_m211 102 L (v2 :: v1 :: .ref a :: [.int s0, .ref t1]) (rz_mk h ι, w) = rz_k true (rz_f Z d 185 [.ref a, v1, v2] (rz_mk h ι, w)) (fun v σ' => rg Z d rx_m211 105 L (v.toList ++ [.int s0, .ref t1]) σ') := rz_cv (pc := 102) (n := 2) (mi := 185) (S := v2 :: v1 :: .ref a :: [.int s0, .ref t1]) (rest := [.int s0, .ref t1]) rfl rfl (Nat.le_of_ble_eq_true rfl) (Nat.le_of_ble_eq_true rfl) c
theorem g211_105 (c : rz_ar h a 0) (hi : rz_ix x (rz_ln h a)) (hz : Z.2.1 ≤ a) : rg Z d rx_m211 105 L (.int y :: .int x :: .ref a :: S) (rz_mk h ι, w) = rg Z d rx_m211 106 L S (rz_mk h (rz_up ι a x.toNatClampNeg y), w) := rz_iast rfl c hi hz
theorem g211_106 : rg Z d rx_m211 106 [l0, some (.int x), l2] S (rz_mk h ι, w) = rg Z d rx_m211 107 [l0, some (.int x), l2] (.int x :: S) (rz_mk h ι, w) := rz_s1 fun _ => rfl
theorem g211_107 : rg Z d rx_m211 107 L S (rz_mk h ι, w) = rg Z d rx_m211 108 L (.int 2 :: S) (rz_mk h ι, w) := rz_s1 fun _ => rfl
theorem g211_108 : rg Z d rx_m211 108 L (.int y :: .int x :: S) (rz_mk h ι, w) = if x = y then rg Z d rx_m211 111 L S (rz_mk h ι, w) else rg Z d rx_m211 121 L S (rz_mk h ι, w) := rz_if2 (pc := 108) (t := 121) (off := 13) (cc := .ne) (by decide) rfl
theorem g211_111 : rg Z d rx_m211 111 [l0, l1, some (.ref a)] S (rz_mk h ι, w) = rg Z d rx_m211 112 [l0, l1, some (.ref a)] (.ref a :: S) (rz_mk h ι, w) := rz_s1 fun _ => rfl
theorem g211_112 : rg Z d rx_m211 112 L S (rz_mk h ι, w) = rg Z d rx_m211 113 L (.int 2 :: S) (rz_mk h ι, w) := rz_s1 fun _ => rfl
theorem g211_113 : rg Z d rx_m211 113 [some (.ref a), l1, l2] S (rz_mk h ι, w) = rg Z d rx_m211 114 [some (.ref a), l1, l2] (.ref a :: S) (rz_mk h ι, w) := rz_s1 fun _ => rfl
theorem g211_114 : rg Z d rx_m211 114 L S (rz_mk h ι, w) = rg Z d rx_m211 115 L (.int 0 :: S) (rz_mk h ι, w) := rz_s1 fun _ => rfl
theorem g211_115 : rg Z d rx_m211 115 L S (rz_mk h ι, w) = rg Z d rx_m211 117 L (.int 7 :: S) (rz_mk h ι, w) := rz_s1 fun _ => rfl
theorem g211_117 (c : rz_oc h a 12) : rg Z d rx_m211 117 L (v2 :: v1 :: .ref a :: [.int s0, .ref t1]) (rz_mk h ι, w) = rz_k true (rz_f Z d 185 [.ref a, v1, v2] (rz_mk h ι, w)) (fun v σ' => rg Z d rx_m211 120 L (v.toList ++ [.int s0, .ref t1]) σ') := rz_cv (pc := 117) (n := 2) (mi := 185) (S := v2 :: v1 :: .ref a :: [.int s0, .ref t1]) (rest := [.int s0, .ref t1]) rfl rfl (Nat.le_of_ble_eq_true rfl) (Nat.le_of_ble_eq_true rfl) c
theorem g211_120 (c : rz_ar h a 0) (hi : rz_ix x (rz_ln h a)) (hz : Z.2.1 ≤ a) : rg Z d rx_m211 120 L (.int y :: .int x :: .ref a :: S) (rz_mk h ι, w) = rg Z d rx_m211 121 L S (rz_mk h (rz_up ι a x.toNatClampNeg y), w) := rz_iast rfl c hi hz
theorem g211_121 : rg Z d rx_m211 121 [l0, some (.int x), l2] S (rz_mk h ι, w) = rg Z d rx_m211 122 [l0, some (.int x), l2] (.int x :: S) (rz_mk h ι, w) := rz_s1 fun _ => rfl
theorem g211_122 : rg Z d rx_m211 122 L S (rz_mk h ι, w) = rg Z d rx_m211 123 L (.int 5 :: S) (rz_mk h ι, w) := rz_s1 fun _ => rfl
theorem g211_123 : rg Z d rx_m211 123 L (.int y :: .int x :: S) (rz_mk h ι, w) = if x = y then rg Z d rx_m211 126 L S (rz_mk h ι, w) else rg Z d rx_m211 193 L S (rz_mk h ι, w) := rz_if2 (pc := 123) (t := 193) (off := 70) (cc := .ne) (by decide) rfl
theorem g211_126 : rg Z d rx_m211 126 [l0, l1, some (.ref a)] S (rz_mk h ι, w) = rg Z d rx_m211 127 [l0, l1, some (.ref a)] (.ref a :: S) (rz_mk h ι, w) := rz_s1 fun _ => rfl
theorem g211_127 : rg Z d rx_m211 127 L S (rz_mk h ι, w) = rg Z d rx_m211 128 L (.int 1 :: S) (rz_mk h ι, w) := rz_s1 fun _ => rfl
theorem g211_128 : rg Z d rx_m211 128 [some (.ref a), l1, l2] S (rz_mk h ι, w) = rg Z d rx_m211 129 [some (.ref a), l1, l2] (.ref a :: S) (rz_mk h ι, w) := rz_s1 fun _ => rfl
theorem g211_129 : rg Z d rx_m211 129 L S (rz_mk h ι, w) = rg Z d rx_m211 130 L (.int 0 :: S) (rz_mk h ι, w) := rz_s1 fun _ => rfl
theorem g211_130 : rg Z d rx_m211 130 L S (rz_mk h ι, w) = rg Z d rx_m211 132 L (.int 60 :: S) (rz_mk h ι, w) := rz_s1 fun _ => rfl
theorem g211_132 (c : rz_oc h a 12) : rg Z d rx_m211 132 L (v2 :: v1 :: .ref a :: [.int s0, .ref t1]) (rz_mk h ι, w) = rz_k true (rz_f Z d 185 [.ref a, v1, v2] (rz_mk h ι, w)) (fun v σ' => rg Z d rx_m211 135 L (v.toList ++ [.int s0, .ref t1]) σ') := rz_cv (pc := 132) (n := 2) (mi := 185) (S := v2 :: v1 :: .ref a :: [.int s0, .ref t1]) (rest := [.int s0, .ref t1]) rfl rfl (Nat.le_of_ble_eq_true rfl) (Nat.le_of_ble_eq_true rfl) c
theorem g211_135 (c : rz_ar h a 0) (hi : rz_ix x (rz_ln h a)) (hz : Z.2.1 ≤ a) : rg Z d rx_m211 135 L (.int y :: .int x :: .ref a :: S) (rz_mk h ι, w) = rg Z d rx_m211 136 L S (rz_mk h (rz_up ι a x.toNatClampNeg y), w) := rz_iast rfl c hi hz
theorem g211_136 : rg Z d rx_m211 136 [some (.ref a), l1, l2] S (rz_mk h ι, w) = rg Z d rx_m211 137 [some (.ref a), l1, l2] (.ref a :: S) (rz_mk h ι, w) := rz_s1 fun _ => rfl
theorem g211_137 : rg Z d rx_m211 137 L S (rz_mk h ι, w) = rg Z d rx_m211 139 L (.int 91 :: S) (rz_mk h ι, w) := rz_s1 fun _ => rfl
theorem g211_139 (c : rz_oc h a 12) : rg Z d rx_m211 139 L (v1 :: .ref a :: []) (rz_mk h ι, w) = rz_k true (rz_f Z d 191 [.ref a, v1] (rz_mk h ι, w)) (fun v σ' => rg Z d rx_m211 142 L (v.toList ++ []) σ') := rz_cv (pc := 139) (n := 1) (mi := 191) (S := v1 :: .ref a :: []) (rest := []) rfl rfl (Nat.le_of_ble_eq_true rfl) (Nat.le_of_ble_eq_true rfl) c
theorem g211_142 : rg Z d rx_m211 142 [some (.ref a), l1, l2] S (rz_mk h ι, w) = rg Z d rx_m211 143 [some (.ref a), l1, l2] (.ref a :: S) (rz_mk h ι, w) := rz_s1 fun _ => rfl
theorem g211_143 (c : rz_oc h a 12) : rg Z d rx_m211 143 L (.ref a :: []) (rz_mk h ι, w) = rz_k true (rz_f Z d 181 [.ref a] (rz_mk h ι, w)) (fun v σ' => rg Z d rx_m211 146 L (v.toList ++ []) σ') := rz_cv (pc := 143) (n := 0) (mi := 181) (S := .ref a :: []) (rest := []) rfl rfl (Nat.le_of_ble_eq_true rfl) (Nat.le_of_ble_eq_true rfl) c
theorem g211_146 : rg Z d rx_m211 146 [some (.ref a), l1, l2] S (rz_mk h ι, w) = rg Z d rx_m211 147 [some (.ref a), l1, l2] (.ref a :: S) (rz_mk h ι, w) := rz_s1 fun _ => rfl
theorem g211_147 (c : rz_fI h a 12 5) : rg Z d rx_m211 147 L (.ref a :: S) (rz_mk h ι, w) = rg Z d rx_m211 150 L (.int (ι a 5) :: S) (rz_mk h ι, w) := rz_gI rfl (by decide) c
theorem g211_150 : rg Z d rx_m211 150 L (.int x :: S) (rz_mk h ι, w) = if x = 0 then rg Z d rx_m211 153 L S (rz_mk h ι, w) else rg Z d rx_m211 177 L S (rz_mk h ι, w) := rz_if1 (pc := 150) (t := 177) (off := 27) (cc := .ne) (by decide) rfl
theorem g211_153 : rg Z d rx_m211 153 [some (.ref a), l1, l2] S (rz_mk h ι, w) = rg Z d rx_m211 154 [some (.ref a), l1, l2] (.ref a :: S) (rz_mk h ι, w) := rz_s1 fun _ => rfl
theorem g211_154 : rg Z d rx_m211 154 [some (.ref a), l1, l2] S (rz_mk h ι, w) = rg Z d rx_m211 155 [some (.ref a), l1, l2] (.ref a :: S) (rz_mk h ι, w) := rz_s1 fun _ => rfl
theorem g211_155 (c : rz_fI h a 12 4) : rg Z d rx_m211 155 L (.ref a :: S) (rz_mk h ι, w) = rg Z d rx_m211 158 L (.int (ι a 4) :: S) (rz_mk h ι, w) := rz_gI rfl (by decide) c
theorem g211_158 (c : rz_oc h a 12) : rg Z d rx_m211 158 L (v1 :: .ref a :: []) (rz_mk h ι, w) = rz_k true (rz_f Z d 180 [.ref a, v1] (rz_mk h ι, w)) (fun v σ' => rg Z d rx_m211 161 L (v.toList ++ []) σ') := rz_cv (pc := 158) (n := 1) (mi := 180) (S := v1 :: .ref a :: []) (rest := []) rfl rfl (Nat.le_of_ble_eq_true rfl) (Nat.le_of_ble_eq_true rfl) c
theorem g211_161 : rg Z d rx_m211 161 L S (rz_mk h ι, w) = rg Z d rx_m211 163 L (.int 93 :: S) (rz_mk h ι, w) := rz_s1 fun _ => rfl
theorem g211_163 : rg Z d rx_m211 163 L (.int y :: .int x :: S) (rz_mk h ι, w) = if x = y then rg Z d rx_m211 177 L S (rz_mk h ι, w) else rg Z d rx_m211 166 L S (rz_mk h ι, w) := rz_if2 (pc := 163) (t := 177) (off := 14) (cc := .eq) (by decide) rfl
theorem g211_166 : rg Z d rx_m211 166 [some (.ref a), l1, l2] S (rz_mk h ι, w) = rg Z d rx_m211 167 [some (.ref a), l1, l2] (.ref a :: S) (rz_mk h ι, w) := rz_s1 fun _ => rfl
theorem g211_167 (c : rz_oc h a 12) : rg Z d rx_m211 167 L (.ref a :: []) (rz_mk h ι, w) = rz_k true (rz_f Z d 211 [.ref a] (rz_mk h ι, w)) (fun v σ' => rg Z d rx_m211 170 L (v.toList ++ []) σ') := rz_cv (pc := 167) (n := 0) (mi := 211) (S := .ref a :: []) (rest := []) rfl rfl (Nat.le_of_ble_eq_true rfl) (Nat.le_of_ble_eq_true rfl) c
theorem g211_170 : rg Z d rx_m211 170 [some (.ref a), l1, l2] S (rz_mk h ι, w) = rg Z d rx_m211 171 [some (.ref a), l1, l2] (.ref a :: S) (rz_mk h ι, w) := rz_s1 fun _ => rfl
theorem g211_171 (c : rz_oc h a 12) : rg Z d rx_m211 171 L (.ref a :: []) (rz_mk h ι, w) = rz_k true (rz_f Z d 181 [.ref a] (rz_mk h ι, w)) (fun v σ' => rg Z d rx_m211 174 L (v.toList ++ []) σ') := rz_cv (pc := 171) (n := 0) (mi := 181) (S := .ref a :: []) (rest := []) rfl rfl (Nat.le_of_ble_eq_true rfl) (Nat.le_of_ble_eq_true rfl) c
theorem g211_174 : rg Z d rx_m211 174 L S (rz_mk h ι, w) = rg Z d rx_m211 146 L S (rz_mk h ι, w) := rz_s1 fun _ => rfl
theorem g211_177 : rg Z d rx_m211 177 [some (.ref a), l1, l2] S (rz_mk h ι, w) = rg Z d rx_m211 178 [some (.ref a), l1, l2] (.ref a :: S) (rz_mk h ι, w) := rz_s1 fun _ => rfl
theorem g211_178 : rg Z d rx_m211 178 L S (rz_mk h ι, w) = rg Z d rx_m211 180 L (.int 93 :: S) (rz_mk h ι, w) := rz_s1 fun _ => rfl
theorem g211_180 (c : rz_oc h a 12) : rg Z d rx_m211 180 L (v1 :: .ref a :: []) (rz_mk h ι, w) = rz_k true (rz_f Z d 191 [.ref a, v1] (rz_mk h ι, w)) (fun v σ' => rg Z d rx_m211 183 L (v.toList ++ []) σ') := rz_cv (pc := 180) (n := 1) (mi := 191) (S := v1 :: .ref a :: []) (rest := []) rfl rfl (Nat.le_of_ble_eq_true rfl) (Nat.le_of_ble_eq_true rfl) c
theorem g211_183 : rg Z d rx_m211 183 [some (.ref a), l1, l2] S (rz_mk h ι, w) = rg Z d rx_m211 184 [some (.ref a), l1, l2] (.ref a :: S) (rz_mk h ι, w) := rz_s1 fun _ => rfl
theorem g211_184 : rg Z d rx_m211 184 L (.ref a :: S) (rz_mk h ι, w) = rg Z d rx_m211 185 L (.ref a :: .ref a :: S) (rz_mk h ι, w) := rz_s1 fun _ => rfl
theorem g211_185 (c : rz_fI h a 12 8) : rg Z d rx_m211 185 L (.ref a :: S) (rz_mk h ι, w) = rg Z d rx_m211 188 L (.int (ι a 8) :: S) (rz_mk h ι, w) := rz_gI rfl (by decide) c
theorem g211_188 : rg Z d rx_m211 188 L S (rz_mk h ι, w) = rg Z d rx_m211 189 L (.int 1 :: S) (rz_mk h ι, w) := rz_s1 fun _ => rfl
theorem g211_189 : rg Z d rx_m211 189 L (.int y :: .int x :: S) (rz_mk h ι, w) = rg Z d rx_m211 190 L (.int (x - y) :: S) (rz_mk h ι, w) := rz_s1 fun _ => rfl
theorem g211_190 (c : rz_fI h a 12 8) (hz : Z.2.1 ≤ a) : rg Z d rx_m211 190 L (.int x :: .ref a :: S) (rz_mk h ι, w) = rg Z d rx_m211 193 L S (rz_mk h (rz_up ι a 8 x), w) := rz_pI rfl c hz
theorem g211_193 : rg Z d rx_m211 193 [l0, l1, some (.ref a)] S (rz_mk h ι, w) = rg Z d rx_m211 194 [l0, l1, some (.ref a)] (.ref a :: S) (rz_mk h ι, w) := rz_s1 fun _ => rfl
theorem g211_194 : rg Z d rx_m211 194 L S (rz_mk h ι, w) = rg Z d rx_m211 195 L (.int 4 :: S) (rz_mk h ι, w) := rz_s1 fun _ => rfl
theorem g211_195 : rg Z d rx_m211 195 [some (.ref a), l1, l2] S (rz_mk h ι, w) = rg Z d rx_m211 196 [some (.ref a), l1, l2] (.ref a :: S) (rz_mk h ι, w) := rz_s1 fun _ => rfl
theorem g211_196 (c : rz_fI h a 12 24) : rg Z d rx_m211 196 L (.ref a :: S) (rz_mk h ι, w) = rg Z d rx_m211 199 L (.int (ι a 24) :: S) (rz_mk h ι, w) := rz_gI rfl (by decide) c
theorem g211_199 (c : rz_ar h a 0) (hi : rz_ix x (rz_ln h a)) (hz : Z.2.1 ≤ a) : rg Z d rx_m211 199 L (.int y :: .int x :: .ref a :: S) (rz_mk h ι, w) = rg Z d rx_m211 200 L S (rz_mk h (rz_up ι a x.toNatClampNeg y), w) := rz_iast rfl c hi hz
theorem g211_200 : rg Z d rx_m211 200 [some (.ref a), l1, l2] S (rz_mk h ι, w) = rg Z d rx_m211 201 [some (.ref a), l1, l2] (.ref a :: S) (rz_mk h ι, w) := rz_s1 fun _ => rfl
theorem g211_201 : rg Z d rx_m211 201 L S (rz_mk h ι, w) = rg Z d rx_m211 203 L (.int 59 :: S) (rz_mk h ι, w) := rz_s1 fun _ => rfl
theorem g211_203 (c : rz_oc h a 12) : rg Z d rx_m211 203 L (v1 :: .ref a :: []) (rz_mk h ι, w) = rz_k true (rz_f Z d 191 [.ref a, v1] (rz_mk h ι, w)) (fun v σ' => rg Z d rx_m211 206 L (v.toList ++ []) σ') := rz_cv (pc := 203) (n := 1) (mi := 191) (S := v1 :: .ref a :: []) (rest := []) rfl rfl (Nat.le_of_ble_eq_true rfl) (Nat.le_of_ble_eq_true rfl) c
theorem g211_206 : rg Z d rx_m211 206 L [] (rz_mk h ι, w) = some (.inl none, (rz_mk h ι, w)) := rz_r1 fun _ => rfl
theorem e211 : rz_f Z (d + 1) 211 [.ref t0] σ = rg Z d rx_m211 0 [some (.ref t0), none, none] [] σ := rz_f_eq rfl (Nat.le_of_ble_eq_true rfl)
theorem g212_0 : rg Z d rx_m212 0 [some (.ref a), l1, l2, l3, l4, l5, l6] S (rz_mk h ι, w) = rg Z d rx_m212 1 [some (.ref a), l1, l2, l3, l4, l5, l6] (.ref a :: S) (rz_mk h ι, w) := rz_s1 fun _ => rfl
theorem g212_1 : rg Z d rx_m212 1 L S (rz_mk h ι, w) = rg Z d rx_m212 2 L (.int 0 :: S) (rz_mk h ι, w) := rz_s1 fun _ => rfl
theorem g212_2 (c : rz_fI h a 12 0) (hz : Z.2.1 ≤ a) : rg Z d rx_m212 2 L (.int x :: .ref a :: S) (rz_mk h ι, w) = rg Z d rx_m212 5 L S (rz_mk h (rz_up ι a 0 x), w) := rz_pI rfl c hz
theorem g212_5 : rg Z d rx_m212 5 [some (.ref a), l1, l2, l3, l4, l5, l6] S (rz_mk h ι, w) = rg Z d rx_m212 6 [some (.ref a), l1, l2, l3, l4, l5, l6] (.ref a :: S) (rz_mk h ι, w) := rz_s1 fun _ => rfl
theorem g212_6 : rg Z d rx_m212 6 [l0, some (.int x), l2, l3, l4, l5, l6] S (rz_mk h ι, w) = rg Z d rx_m212 7 [l0, some (.int x), l2, l3, l4, l5, l6] (.int x :: S) (rz_mk h ι, w) := rz_s1 fun _ => rfl
theorem g212_7 : rg Z d rx_m212 7 L S (rz_mk h ι, w) = rg Z d rx_m212 8 L (.int 0 :: S) (rz_mk h ι, w) := rz_s1 fun _ => rfl
theorem g212_8 : rg Z d rx_m212 8 [some (.ref a), l1, l2, l3, l4, l5, l6] S (rz_mk h ι, w) = rg Z d rx_m212 9 [some (.ref a), l1, l2, l3, l4, l5, l6] (.ref a :: S) (rz_mk h ι, w) := rz_s1 fun _ => rfl
theorem g212_9 (c : rz_fI h a 12 1) : rg Z d rx_m212 9 L (.ref a :: S) (rz_mk h ι, w) = rg Z d rx_m212 12 L (.int (ι a 1) :: S) (rz_mk h ι, w) := rz_gI rfl (by decide) c
theorem g212_12 : rg Z d rx_m212 12 L (v3 :: v2 :: v1 :: [.ref t0]) (rz_mk h ι, w) = rz_k true (rz_f Z d 175 [v1, v2, v3] (rz_mk h ι, w)) (fun v σ' => rg Z d rx_m212 15 L (v.toList ++ [.ref t0]) σ') := rz_cs (pc := 12) (n := 3) (mi := 175) (S := v3 :: v2 :: v1 :: [.ref t0]) (rest := [.ref t0]) rfl rfl (Nat.le_of_ble_eq_true rfl) (Nat.le_of_ble_eq_true rfl)
theorem g212_15 : rg Z d rx_m212 15 L (.int x :: S) (rz_mk h ι, w) = if x = 0 then rg Z d rx_m212 24 L S (rz_mk h ι, w) else rg Z d rx_m212 18 L S (rz_mk h ι, w) := rz_if1 (pc := 15) (t := 24) (off := 9) (cc := .eq) (by decide) rfl
theorem g212_18 : rg Z d rx_m212 18 [l0, some (.int x), l2, l3, l4, l5, l6] S (rz_mk h ι, w) = rg Z d rx_m212 19 [l0, some (.int x), l2, l3, l4, l5, l6] (.int x :: S) (rz_mk h ι, w) := rz_s1 fun _ => rfl
theorem g212_19 : rg Z d rx_m212 19 L S (rz_mk h ι, w) = rg Z d rx_m212 21 L (.int 60 :: S) (rz_mk h ι, w) := rz_s1 fun _ => rfl
theorem g212_21 : rg Z d rx_m212 21 L (.int y :: .int x :: S) (rz_mk h ι, w) = if y < x then rg Z d rx_m212 24 L S (rz_mk h ι, w) else rg Z d rx_m212 28 L S (rz_mk h ι, w) := rz_if2 (pc := 21) (t := 28) (off := 7) (cc := .le) (by decide) rfl
theorem g212_24 : rg Z d rx_m212 24 L S (rz_mk h ι, w) = rg Z d rx_m212 25 L (.int 1 :: S) (rz_mk h ι, w) := rz_s1 fun _ => rfl
theorem g212_25 : rg Z d rx_m212 25 L S (rz_mk h ι, w) = rg Z d rx_m212 29 L S (rz_mk h ι, w) := rz_s1 fun _ => rfl
theorem g212_28 : rg Z d rx_m212 28 L S (rz_mk h ι, w) = rg Z d rx_m212 29 L (.int 0 :: S) (rz_mk h ι, w) := rz_s1 fun _ => rfl
theorem g212_29 : rg Z d rx_m212 29 L S (rz_mk h ι, w) = rg Z d rx_m212 30 L (.int 1 :: S) (rz_mk h ι, w) := rz_s1 fun _ => rfl
theorem g212_30 : rg Z d rx_m212 30 L S (rz_mk h ι, w) = rg Z d rx_m212 31 L (.int 1 :: S) (rz_mk h ι, w) := rz_s1 fun _ => rfl
theorem g212_31 (c : rz_oc h a 12) : rg Z d rx_m212 31 L (v3 :: v2 :: v1 :: .ref a :: []) (rz_mk h ι, w) = rz_k true (rz_f Z d 174 [.ref a, v1, v2, v3] (rz_mk h ι, w)) (fun v σ' => rg Z d rx_m212 34 L (v.toList ++ []) σ') := rz_cv (pc := 31) (n := 3) (mi := 174) (S := v3 :: v2 :: v1 :: .ref a :: []) (rest := []) rfl rfl (Nat.le_of_ble_eq_true rfl) (Nat.le_of_ble_eq_true rfl) c
theorem g212_34 : rg Z d rx_m212 34 L (.int x :: S) (rz_mk h ι, w) = if x = 0 then rg Z d rx_m212 39 L S (rz_mk h ι, w) else rg Z d rx_m212 37 L S (rz_mk h ι, w) := rz_if1 (pc := 34) (t := 39) (off := 5) (cc := .eq) (by decide) rfl
theorem g212_37 : rg Z d rx_m212 37 L S (rz_mk h ι, w) = rg Z d rx_m212 38 L (.int 0 :: S) (rz_mk h ι, w) := rz_s1 fun _ => rfl
theorem g212_38 : rg Z d rx_m212 38 L [.int x] (rz_mk h ι, w) = some (.inl (some (.int x)), (rz_mk h ι, w)) := rz_reti rfl rfl rfl
theorem g212_39 : rg Z d rx_m212 39 [some (.ref a), l1, l2, l3, l4, l5, l6] S (rz_mk h ι, w) = rg Z d rx_m212 40 [some (.ref a), l1, l2, l3, l4, l5, l6] (.ref a :: S) (rz_mk h ι, w) := rz_s1 fun _ => rfl
theorem g212_40 : rg Z d rx_m212 40 [l0, some (.int x), l2, l3, l4, l5, l6] S (rz_mk h ι, w) = rg Z d rx_m212 41 [l0, some (.int x), l2, l3, l4, l5, l6] (.int x :: S) (rz_mk h ι, w) := rz_s1 fun _ => rfl
theorem g212_41 (c : rz_oc h a 12) : rg Z d rx_m212 41 L (v1 :: .ref a :: []) (rz_mk h ι, w) = rz_k true (rz_f Z d 193 [.ref a, v1] (rz_mk h ι, w)) (fun v σ' => rg Z d rx_m212 44 L (v.toList ++ []) σ') := rz_cv (pc := 41) (n := 1) (mi := 193) (S := v1 :: .ref a :: []) (rest := []) rfl rfl (Nat.le_of_ble_eq_true rfl) (Nat.le_of_ble_eq_true rfl) c
theorem g212_44 : rg Z d rx_m212 44 L S (rz_mk h ι, w) = rg Z d rx_m212 45 L (.int 0 :: S) (rz_mk h ι, w) := rz_s1 fun _ => rfl
theorem g212_45 : rg Z d rx_m212 45 [l0, some (.int z), l2, l3, l4, l5, l6] (.int x :: S) (rz_mk h ι, w) = rg Z d rx_m212 46 [l0, some (.int z), some (.int x), l3, l4, l5, l6] S (rz_mk h ι, w) := rz_s1 fun _ => rfl
theorem g212_46 : rg Z d rx_m212 46 L S (rz_mk h ι, w) = rg Z d rx_m212 47 L (.int 0 :: S) (rz_mk h ι, w) := rz_s1 fun _ => rfl
theorem g212_47 : rg Z d rx_m212 47 [l0, l1, some (.int z), l3, l4, l5, l6] (.int x :: S) (rz_mk h ι, w) = rg Z d rx_m212 48 [l0, l1, some (.int z), some (.int x), l4, l5, l6] S (rz_mk h ι, w) := rz_s1 fun _ => rfl
theorem g212_48 : rg Z d rx_m212 48 [some (.ref a), l1, l2, l3, l4, l5, l6] S (rz_mk h ι, w) = rg Z d rx_m212 49 [some (.ref a), l1, l2, l3, l4, l5, l6] (.ref a :: S) (rz_mk h ι, w) := rz_s1 fun _ => rfl
theorem g212_49 (c : rz_fI h a 12 5) : rg Z d rx_m212 49 L (.ref a :: S) (rz_mk h ι, w) = rg Z d rx_m212 52 L (.int (ι a 5) :: S) (rz_mk h ι, w) := rz_gI rfl (by decide) c
theorem g212_52 : rg Z d rx_m212 52 L (.int x :: S) (rz_mk h ι, w) = if x = 0 then rg Z d rx_m212 55 L S (rz_mk h ι, w) else rg Z d rx_m212 163 L S (rz_mk h ι, w) := rz_if1 (pc := 52) (t := 163) (off := 111) (cc := .ne) (by decide) rfl
theorem g212_55 : rg Z d rx_m212 55 [some (.ref a), l1, l2, l3, l4, l5, l6] S (rz_mk h ι, w) = rg Z d rx_m212 56 [some (.ref a), l1, l2, l3, l4, l5, l6] (.ref a :: S) (rz_mk h ι, w) := rz_s1 fun _ => rfl
theorem g212_56 (c : rz_fI h a 12 4) : rg Z d rx_m212 56 L (.ref a :: S) (rz_mk h ι, w) = rg Z d rx_m212 59 L (.int (ι a 4) :: S) (rz_mk h ι, w) := rz_gI rfl (by decide) c
theorem g212_59 : rg Z d rx_m212 59 [some (.ref a), l1, l2, l3, l4, l5, l6] S (rz_mk h ι, w) = rg Z d rx_m212 60 [some (.ref a), l1, l2, l3, l4, l5, l6] (.ref a :: S) (rz_mk h ι, w) := rz_s1 fun _ => rfl
theorem g212_60 (c : rz_fI h a 12 2) : rg Z d rx_m212 60 L (.ref a :: S) (rz_mk h ι, w) = rg Z d rx_m212 63 L (.int (ι a 2) :: S) (rz_mk h ι, w) := rz_gI rfl (by decide) c
theorem g212_63 : rg Z d rx_m212 63 L (.int y :: .int x :: S) (rz_mk h ι, w) = if x < y then rg Z d rx_m212 66 L S (rz_mk h ι, w) else rg Z d rx_m212 163 L S (rz_mk h ι, w) := rz_if2 (pc := 63) (t := 163) (off := 100) (cc := .ge) (by decide) rfl
theorem g212_66 : rg Z d rx_m212 66 [some (.ref a), l1, l2, l3, l4, l5, l6] S (rz_mk h ι, w) = rg Z d rx_m212 67 [some (.ref a), l1, l2, l3, l4, l5, l6] (.ref a :: S) (rz_mk h ι, w) := rz_s1 fun _ => rfl
theorem g212_67 (c : rz_fI h a 12 4) : rg Z d rx_m212 67 L (.ref a :: S) (rz_mk h ι, w) = rg Z d rx_m212 70 L (.int (ι a 4) :: S) (rz_mk h ι, w) := rz_gI rfl (by decide) c
theorem g212_70 : rg Z d rx_m212 70 [l0, l1, l2, some (.int z), l4, l5, l6] (.int x :: S) (rz_mk h ι, w) = rg Z d rx_m212 72 [l0, l1, l2, some (.int z), some (.int x), l5, l6] S (rz_mk h ι, w) := rz_s1 fun _ => rfl
theorem g212_72 : rg Z d rx_m212 72 [some (.ref a), l1, l2, l3, l4, l5, l6] S (rz_mk h ι, w) = rg Z d rx_m212 73 [some (.ref a), l1, l2, l3, l4, l5, l6] (.ref a :: S) (rz_mk h ι, w) := rz_s1 fun _ => rfl
theorem g212_73 : rg Z d rx_m212 73 L S (rz_mk h ι, w) = rg Z d rx_m212 74 L (.int 0 :: S) (rz_mk h ι, w) := rz_s1 fun _ => rfl
theorem g212_74 : rg Z d rx_m212 74 L S (rz_mk h ι, w) = rg Z d rx_m212 76 L (.int 7 :: S) (rz_mk h ι, w) := rz_s1 fun _ => rfl
theorem g212_76 (c : rz_oc h a 12) : rg Z d rx_m212 76 L (v2 :: v1 :: .ref a :: []) (rz_mk h ι, w) = rz_k true (rz_f Z d 185 [.ref a, v1, v2] (rz_mk h ι, w)) (fun v σ' => rg Z d rx_m212 79 L (v.toList ++ []) σ') := rz_cv (pc := 76) (n := 2) (mi := 185) (S := v2 :: v1 :: .ref a :: []) (rest := []) rfl rfl (Nat.le_of_ble_eq_true rfl) (Nat.le_of_ble_eq_true rfl) c
theorem g212_79 : rg Z d rx_m212 79 [l0, l1, l2, l3, some (.int z), l5, l6] (.int x :: S) (rz_mk h ι, w) = rg Z d rx_m212 81 [l0, l1, l2, l3, some (.int z), some (.int x), l6] S (rz_mk h ι, w) := rz_s1 fun _ => rfl
theorem g212_81 : rg Z d rx_m212 81 [some (.ref a), l1, l2, l3, l4, l5, l6] S (rz_mk h ι, w) = rg Z d rx_m212 82 [some (.ref a), l1, l2, l3, l4, l5, l6] (.ref a :: S) (rz_mk h ι, w) := rz_s1 fun _ => rfl
theorem g212_82 (c : rz_fI h a 12 5) : rg Z d rx_m212 82 L (.ref a :: S) (rz_mk h ι, w) = rg Z d rx_m212 85 L (.int (ι a 5) :: S) (rz_mk h ι, w) := rz_gI rfl (by decide) c
theorem g212_85 : rg Z d rx_m212 85 L (.int x :: S) (rz_mk h ι, w) = if x = 0 then rg Z d rx_m212 88 L S (rz_mk h ι, w) else rg Z d rx_m212 104 L S (rz_mk h ι, w) := rz_if1 (pc := 85) (t := 104) (off := 19) (cc := .ne) (by decide) rfl
theorem g212_88 : rg Z d rx_m212 88 [l0, l1, l2, some (.int x), l4, l5, l6] S (rz_mk h ι, w) = rg Z d rx_m212 89 [l0, l1, l2, some (.int x), l4, l5, l6] (.int x :: S) (rz_mk h ι, w) := rz_s1 fun _ => rfl
theorem g212_89 : rg Z d rx_m212 89 [l0, l1, l2, l3, l4, some (.int x), l6] S (rz_mk h ι, w) = rg Z d rx_m212 91 [l0, l1, l2, l3, l4, some (.int x), l6] (.int x :: S) (rz_mk h ι, w) := rz_s1 fun _ => rfl
theorem g212_91 : rg Z d rx_m212 91 L (v2 :: v1 :: []) (rz_mk h ι, w) = rz_k true (rz_f Z d 178 [v1, v2] (rz_mk h ι, w)) (fun v σ' => rg Z d rx_m212 94 L (v.toList ++ []) σ') := rz_cs (pc := 91) (n := 2) (mi := 178) (S := v2 :: v1 :: []) (rest := []) rfl rfl (Nat.le_of_ble_eq_true rfl) (Nat.le_of_ble_eq_true rfl)
theorem g212_94 : rg Z d rx_m212 94 L (.int x :: S) (rz_mk h ι, w) = if x = 0 then rg Z d rx_m212 104 L S (rz_mk h ι, w) else rg Z d rx_m212 97 L S (rz_mk h ι, w) := rz_if1 (pc := 94) (t := 104) (off := 10) (cc := .eq) (by decide) rfl
theorem g212_97 : rg Z d rx_m212 97 [some (.ref a), l1, l2, l3, l4, l5, l6] S (rz_mk h ι, w) = rg Z d rx_m212 98 [some (.ref a), l1, l2, l3, l4, l5, l6] (.ref a :: S) (rz_mk h ι, w) := rz_s1 fun _ => rfl
theorem g212_98 : rg Z d rx_m212 98 L S (rz_mk h ι, w) = rg Z d rx_m212 99 L (.int 2 :: S) (rz_mk h ι, w) := rz_s1 fun _ => rfl
theorem g212_99 : rg Z d rx_m212 99 [l0, l1, l2, l3, some (.int x), l5, l6] S (rz_mk h ι, w) = rg Z d rx_m212 101 [l0, l1, l2, l3, some (.int x), l5, l6] (.int x :: S) (rz_mk h ι, w) := rz_s1 fun _ => rfl
theorem g212_101 (c : rz_oc h a 12) : rg Z d rx_m212 101 L (v2 :: v1 :: .ref a :: []) (rz_mk h ι, w) = rz_k true (rz_f Z d 182 [.ref a, v1, v2] (rz_mk h ι, w)) (fun v σ' => rg Z d rx_m212 104 L (v.toList ++ []) σ') := rz_cv (pc := 101) (n := 2) (mi := 182) (S := v2 :: v1 :: .ref a :: []) (rest := []) rfl rfl (Nat.le_of_ble_eq_true rfl) (Nat.le_of_ble_eq_true rfl) c
theorem g212_104 : rg Z d rx_m212 104 [some (.ref a), l1, l2, l3, l4, l5, l6] S (rz_mk h ι, w) = rg Z d rx_m212 105 [some (.ref a), l1, l2, l3, l4, l5, l6] (.ref a :: S) (rz_mk h ι, w) := rz_s1 fun _ => rfl
theorem g212_105 : rg Z d rx_m212 105 L S (rz_mk h ι, w) = rg Z d rx_m212 106 L (.int 0 :: S) (rz_mk h ι, w) := rz_s1 fun _ => rfl
theorem g212_106 : rg Z d rx_m212 106 L S (rz_mk h ι, w) = rg Z d rx_m212 108 L (.int 99 :: S) (rz_mk h ι, w) := rz_s1 fun _ => rfl
theorem g212_108 (c : rz_oc h a 12) : rg Z d rx_m212 108 L (v2 :: v1 :: .ref a :: []) (rz_mk h ι, w) = rz_k true (rz_f Z d 185 [.ref a, v1, v2] (rz_mk h ι, w)) (fun v σ' => rg Z d rx_m212 111 L (v.toList ++ []) σ') := rz_cv (pc := 108) (n := 2) (mi := 185) (S := v2 :: v1 :: .ref a :: []) (rest := []) rfl rfl (Nat.le_of_ble_eq_true rfl) (Nat.le_of_ble_eq_true rfl) c
theorem g212_111 : rg Z d rx_m212 111 [l0, l1, l2, l3, l4, some (.int z), l6] (.int x :: S) (rz_mk h ι, w) = rg Z d rx_m212 113 [l0, l1, l2, l3, l4, some (.int z), some (.int x)] S (rz_mk h ι, w) := rz_s1 fun _ => rfl
theorem g212_113 : rg Z d rx_m212 113 [some (.ref a), l1, l2, l3, l4, l5, l6] S (rz_mk h ι, w) = rg Z d rx_m212 114 [some (.ref a), l1, l2, l3, l4, l5, l6] (.ref a :: S) (rz_mk h ι, w) := rz_s1 fun _ => rfl
theorem g212_114 : rg Z d rx_m212 114 L S (rz_mk h ι, w) = rg Z d rx_m212 116 L (.int 59 :: S) (rz_mk h ι, w) := rz_s1 fun _ => rfl
theorem g212_116 (c : rz_oc h a 12) : rg Z d rx_m212 116 L (v1 :: .ref a :: []) (rz_mk h ι, w) = rz_k true (rz_f Z d 191 [.ref a, v1] (rz_mk h ι, w)) (fun v σ' => rg Z d rx_m212 119 L (v.toList ++ []) σ') := rz_cv (pc := 116) (n := 1) (mi := 191) (S := v1 :: .ref a :: []) (rest := []) rfl rfl (Nat.le_of_ble_eq_true rfl) (Nat.le_of_ble_eq_true rfl) c
theorem g212_119 : rg Z d rx_m212 119 [some (.ref a), l1, l2, l3, l4, l5, l6] S (rz_mk h ι, w) = rg Z d rx_m212 120 [some (.ref a), l1, l2, l3, l4, l5, l6] (.ref a :: S) (rz_mk h ι, w) := rz_s1 fun _ => rfl
theorem g212_120 (c : rz_fI h a 12 5) : rg Z d rx_m212 120 L (.ref a :: S) (rz_mk h ι, w) = rg Z d rx_m212 123 L (.int (ι a 5) :: S) (rz_mk h ι, w) := rz_gI rfl (by decide) c
theorem g212_123 : rg Z d rx_m212 123 L (.int x :: S) (rz_mk h ι, w) = if x = 0 then rg Z d rx_m212 126 L S (rz_mk h ι, w) else rg Z d rx_m212 156 L S (rz_mk h ι, w) := rz_if1 (pc := 123) (t := 156) (off := 33) (cc := .ne) (by decide) rfl
theorem g212_126 : rg Z d rx_m212 126 [l0, l1, l2, some (.int x), l4, l5, l6] S (rz_mk h ι, w) = rg Z d rx_m212 127 [l0, l1, l2, some (.int x), l4, l5, l6] (.int x :: S) (rz_mk h ι, w) := rz_s1 fun _ => rfl
theorem g212_127 : rg Z d rx_m212 127 L S (rz_mk h ι, w) = rg Z d rx_m212 128 L (.int 1 :: S) (rz_mk h ι, w) := rz_s1 fun _ => rfl
theorem g212_128 : rg Z d rx_m212 128 [l0, l1, l2, l3, l4, some (.int x), l6] S (rz_mk h ι, w) = rg Z d rx_m212 130 [l0, l1, l2, l3, l4, some (.int x), l6] (.int x :: S) (rz_mk h ι, w) := rz_s1 fun _ => rfl
theorem g212_130 : rg Z d rx_m212 130 L (.int y :: .int x :: S) (rz_mk h ι, w) = rg Z d rx_m212 131 L (.int (x <<< (y &&& 31)) :: S) (rz_mk h ι, w) := rz_s1 fun _ => rfl
theorem g212_131 : rg Z d rx_m212 131 L (.int y :: .int x :: S) (rz_mk h ι, w) = rg Z d rx_m212 132 L (.int (x ||| y) :: S) (rz_mk h ι, w) := rz_s1 fun _ => rfl
theorem g212_132 : rg Z d rx_m212 132 [l0, l1, some (.int z), l3, l4, l5, l6] (.int x :: S) (rz_mk h ι, w) = rg Z d rx_m212 133 [l0, l1, some (.int z), some (.int x), l4, l5, l6] S (rz_mk h ι, w) := rz_s1 fun _ => rfl
theorem g212_133 : rg Z d rx_m212 133 [some (.ref a), l1, l2, l3, l4, l5, l6] S (rz_mk h ι, w) = rg Z d rx_m212 134 [some (.ref a), l1, l2, l3, l4, l5, l6] (.ref a :: S) (rz_mk h ι, w) := rz_s1 fun _ => rfl
theorem g212_134 (c : rz_fR h a 12 20) : rg Z d rx_m212 134 L (.ref a :: S) (rz_mk h ι, w) = rg Z d rx_m212 137 L (rz_rv h a 20 :: S) (rz_mk h ι, w) := rz_gR rfl (by decide) c
theorem g212_137 : rg Z d rx_m212 137 [l0, l1, some (.int x), l3, l4, l5, l6] S (rz_mk h ι, w) = rg Z d rx_m212 138 [l0, l1, some (.int x), l3, l4, l5, l6] (.int x :: S) (rz_mk h ι, w) := rz_s1 fun _ => rfl
theorem g212_138 (c : rz_ar h a 3) (hi : rz_ix x (rz_ln h a)) : rg Z d rx_m212 138 L (.int x :: .ref a :: S) (rz_mk h ι, w) = rg Z d rx_m212 139 L (rz_el h a x.toNatClampNeg :: S) (rz_mk h ι, w) := rz_aald (by decide) rfl c hi
theorem g212_139 : rg Z d rx_m212 139 L S (rz_mk h ι, w) = rg Z d rx_m212 140 L (.int 0 :: S) (rz_mk h ι, w) := rz_s1 fun _ => rfl
theorem g212_140 : rg Z d rx_m212 140 [l0, l1, l2, l3, l4, some (.int x), l6] S (rz_mk h ι, w) = rg Z d rx_m212 142 [l0, l1, l2, l3, l4, some (.int x), l6] (.int x :: S) (rz_mk h ι, w) := rz_s1 fun _ => rfl
theorem g212_142 (c : rz_ar h a 0) (hi : rz_ix x (rz_ln h a)) (hz : Z.2.1 ≤ a) : rg Z d rx_m212 142 L (.int y :: .int x :: .ref a :: S) (rz_mk h ι, w) = rg Z d rx_m212 143 L S (rz_mk h (rz_up ι a x.toNatClampNeg y), w) := rz_iast rfl c hi hz
theorem g212_143 : rg Z d rx_m212 143 [some (.ref a), l1, l2, l3, l4, l5, l6] S (rz_mk h ι, w) = rg Z d rx_m212 144 [some (.ref a), l1, l2, l3, l4, l5, l6] (.ref a :: S) (rz_mk h ι, w) := rz_s1 fun _ => rfl
theorem g212_144 (c : rz_fR h a 12 20) : rg Z d rx_m212 144 L (.ref a :: S) (rz_mk h ι, w) = rg Z d rx_m212 147 L (rz_rv h a 20 :: S) (rz_mk h ι, w) := rz_gR rfl (by decide) c
theorem g212_147 : rg Z d rx_m212 147 [l0, l1, some (.int x), l3, l4, l5, l6] S (rz_mk h ι, w) = rg Z d rx_m212 148 [l0, l1, some (.int x), l3, l4, l5, l6] (.int x :: S) (rz_mk h ι, w) := rz_s1 fun _ => rfl
theorem g212_148 (c : rz_ar h a 3) (hi : rz_ix x (rz_ln h a)) : rg Z d rx_m212 148 L (.int x :: .ref a :: S) (rz_mk h ι, w) = rg Z d rx_m212 149 L (rz_el h a x.toNatClampNeg :: S) (rz_mk h ι, w) := rz_aald (by decide) rfl c hi
theorem g212_149 : rg Z d rx_m212 149 L S (rz_mk h ι, w) = rg Z d rx_m212 150 L (.int 1 :: S) (rz_mk h ι, w) := rz_s1 fun _ => rfl
theorem g212_150 : rg Z d rx_m212 150 [l0, l1, l2, l3, l4, l5, some (.int x)] S (rz_mk h ι, w) = rg Z d rx_m212 152 [l0, l1, l2, l3, l4, l5, some (.int x)] (.int x :: S) (rz_mk h ι, w) := rz_s1 fun _ => rfl
theorem g212_152 (c : rz_ar h a 0) (hi : rz_ix x (rz_ln h a)) (hz : Z.2.1 ≤ a) : rg Z d rx_m212 152 L (.int y :: .int x :: .ref a :: S) (rz_mk h ι, w) = rg Z d rx_m212 153 L S (rz_mk h (rz_up ι a x.toNatClampNeg y), w) := rz_iast rfl c hi hz
theorem g212_153 : rg Z d rx_m212 153 [l0, some (.int z), some (.int x), l3, l4, l5, l6] S (rz_mk h ι, w) = rg Z d rx_m212 156 [l0, some (.int z), some (.int (x + 1)), l3, l4, l5, l6] S (rz_mk h ι, w) := rz_s1 fun _ => rfl
theorem g212_156 : rg Z d rx_m212 156 [some (.ref a), l1, l2, l3, l4, l5, l6] S (rz_mk h ι, w) = rg Z d rx_m212 157 [some (.ref a), l1, l2, l3, l4, l5, l6] (.ref a :: S) (rz_mk h ι, w) := rz_s1 fun _ => rfl
theorem g212_157 (c : rz_oc h a 12) : rg Z d rx_m212 157 L (.ref a :: []) (rz_mk h ι, w) = rz_k true (rz_f Z d 181 [.ref a] (rz_mk h ι, w)) (fun v σ' => rg Z d rx_m212 160 L (v.toList ++ []) σ') := rz_cv (pc := 157) (n := 0) (mi := 181) (S := .ref a :: []) (rest := []) rfl rfl (Nat.le_of_ble_eq_true rfl) (Nat.le_of_ble_eq_true rfl) c
theorem g212_160 : rg Z d rx_m212 160 L S (rz_mk h ι, w) = rg Z d rx_m212 48 L S (rz_mk h ι, w) := rz_s1 fun _ => rfl
theorem g212_163 : rg Z d rx_m212 163 [some (.ref a), l1, l2, l3, l4, l5, l6] S (rz_mk h ι, w) = rg Z d rx_m212 164 [some (.ref a), l1, l2, l3, l4, l5, l6] (.ref a :: S) (rz_mk h ι, w) := rz_s1 fun _ => rfl
theorem g212_164 (c : rz_fI h a 12 5) : rg Z d rx_m212 164 L (.ref a :: S) (rz_mk h ι, w) = rg Z d rx_m212 167 L (.int (ι a 5) :: S) (rz_mk h ι, w) := rz_gI rfl (by decide) c
theorem g212_167 : rg Z d rx_m212 167 L (.int x :: S) (rz_mk h ι, w) = if x = 0 then rg Z d rx_m212 175 L S (rz_mk h ι, w) else rg Z d rx_m212 170 L S (rz_mk h ι, w) := rz_if1 (pc := 167) (t := 175) (off := 8) (cc := .eq) (by decide) rfl
theorem g212_170 : rg Z d rx_m212 170 [some (.ref a), l1, l2, l3, l4, l5, l6] S (rz_mk h ι, w) = rg Z d rx_m212 171 [some (.ref a), l1, l2, l3, l4, l5, l6] (.ref a :: S) (rz_mk h ι, w) := rz_s1 fun _ => rfl
theorem g212_171 (c : rz_oc h a 12) : rg Z d rx_m212 171 L (.ref a :: []) (rz_mk h ι, w) = rz_k true (rz_f Z d 194 [.ref a] (rz_mk h ι, w)) (fun v σ' => rg Z d rx_m212 174 L (v.toList ++ []) σ') := rz_cv (pc := 171) (n := 0) (mi := 194) (S := .ref a :: []) (rest := []) rfl rfl (Nat.le_of_ble_eq_true rfl) (Nat.le_of_ble_eq_true rfl) c
theorem g212_174 : rg Z d rx_m212 174 L [.int x] (rz_mk h ι, w) = some (.inl (some (.int x)), (rz_mk h ι, w)) := rz_reti rfl rfl rfl
theorem g212_175 : rg Z d rx_m212 175 [some (.ref a), l1, l2, l3, l4, l5, l6] S (rz_mk h ι, w) = rg Z d rx_m212 176 [some (.ref a), l1, l2, l3, l4, l5, l6] (.ref a :: S) (rz_mk h ι, w) := rz_s1 fun _ => rfl
theorem g212_176 : rg Z d rx_m212 176 L S (rz_mk h ι, w) = rg Z d rx_m212 177 L (.int (-1) :: S) (rz_mk h ι, w) := rz_s1 fun _ => rfl
theorem g212_177 (c : rz_fI h a 12 3) (hz : Z.2.1 ≤ a) : rg Z d rx_m212 177 L (.int x :: .ref a :: S) (rz_mk h ι, w) = rg Z d rx_m212 180 L S (rz_mk h (rz_up ι a 3 x), w) := rz_pI rfl c hz
theorem g212_180 : rg Z d rx_m212 180 [some (.ref a), l1, l2, l3, l4, l5, l6] S (rz_mk h ι, w) = rg Z d rx_m212 181 [some (.ref a), l1, l2, l3, l4, l5, l6] (.ref a :: S) (rz_mk h ι, w) := rz_s1 fun _ => rfl
theorem g212_181 : rg Z d rx_m212 181 [l0, l1, some (.int x), l3, l4, l5, l6] S (rz_mk h ι, w) = rg Z d rx_m212 182 [l0, l1, some (.int x), l3, l4, l5, l6] (.int x :: S) (rz_mk h ι, w) := rz_s1 fun _ => rfl
theorem g212_182 (c : rz_fI h a 12 29) (hz : Z.2.1 ≤ a) : rg Z d rx_m212 182 L (.int x :: .ref a :: S) (rz_mk h ι, w) = rg Z d rx_m212 185 L S (rz_mk h (rz_up ι a 29 x), w) := rz_pI rfl c hz
theorem g212_185 : rg Z d rx_m212 185 [some (.ref a), l1, l2, l3, l4, l5, l6] S (rz_mk h ι, w) = rg Z d rx_m212 186 [some (.ref a), l1, l2, l3, l4, l5, l6] (.ref a :: S) (rz_mk h ι, w) := rz_s1 fun _ => rfl
theorem g212_186 (c : rz_fR h a 12 20) : rg Z d rx_m212 186 L (.ref a :: S) (rz_mk h ι, w) = rg Z d rx_m212 189 L (rz_rv h a 20 :: S) (rz_mk h ι, w) := rz_gR rfl (by decide) c
theorem g212_189 : rg Z d rx_m212 189 [some (.ref a), l1, l2, l3, l4, l5, l6] S (rz_mk h ι, w) = rg Z d rx_m212 190 [some (.ref a), l1, l2, l3, l4, l5, l6] (.ref a :: S) (rz_mk h ι, w) := rz_s1 fun _ => rfl
theorem g212_190 (c : rz_fR h a 12 19) : rg Z d rx_m212 190 L (.ref a :: S) (rz_mk h ι, w) = rg Z d rx_m212 193 L (rz_rv h a 19 :: S) (rz_mk h ι, w) := rz_gR rfl (by decide) c
theorem g212_193 : rg Z d rx_m212 193 [l0, l1, some (.int x), l3, l4, l5, l6] S (rz_mk h ι, w) = rg Z d rx_m212 194 [l0, l1, some (.int x), l3, l4, l5, l6] (.int x :: S) (rz_mk h ι, w) := rz_s1 fun _ => rfl
theorem g212_194 : rg Z d rx_m212 194 L (v3 :: v2 :: v1 :: []) (rz_mk h ι, w) = rz_k true (rz_f Z d 198 [v1, v2, v3] (rz_mk h ι, w)) (fun v σ' => rg Z d rx_m212 197 L (v.toList ++ []) σ') := rz_cs (pc := 194) (n := 3) (mi := 198) (S := v3 :: v2 :: v1 :: []) (rest := []) rfl rfl (Nat.le_of_ble_eq_true rfl) (Nat.le_of_ble_eq_true rfl)
theorem g212_197 : rg Z d rx_m212 197 [l0, l1, some (.int x), l3, l4, l5, l6] S (rz_mk h ι, w) = rg Z d rx_m212 198 [l0, l1, some (.int x), l3, l4, l5, l6] (.int x :: S) (rz_mk h ι, w) := rz_s1 fun _ => rfl
theorem g212_198 : rg Z d rx_m212 198 L [.int x] (rz_mk h ι, w) = some (.inl (some (.int x)), (rz_mk h ι, w)) := rz_reti rfl rfl rfl
theorem e212 : rz_f Z (d + 1) 212 [.ref t0, .int s1] σ = rg Z d rx_m212 0 [some (.ref t0), some (.int s1), none, none, none, none, none] [] σ := rz_f_eq rfl (Nat.le_of_ble_eq_true rfl)
theorem g213_0 : rg Z d rx_m213 0 [some (.ref a)] S (rz_mk h ι, w) = rg Z d rx_m213 1 [some (.ref a)] (.ref a :: S) (rz_mk h ι, w) := rz_s1 fun _ => rfl
theorem g213_1 : rg Z d rx_m213 1 L S (rz_mk h ι, w) = rg Z d rx_m213 2 L (.int 0 :: S) (rz_mk h ι, w) := rz_s1 fun _ => rfl
theorem g213_2 (c : rz_fI h a 12 0) (hz : Z.2.1 ≤ a) : rg Z d rx_m213 2 L (.int x :: .ref a :: S) (rz_mk h ι, w) = rg Z d rx_m213 5 L S (rz_mk h (rz_up ι a 0 x), w) := rz_pI rfl c hz
theorem g213_5 : rg Z d rx_m213 5 [some (.ref a)] S (rz_mk h ι, w) = rg Z d rx_m213 6 [some (.ref a)] (.ref a :: S) (rz_mk h ι, w) := rz_s1 fun _ => rfl
theorem g213_6 (c : rz_fI h a 12 3) : rg Z d rx_m213 6 L (.ref a :: S) (rz_mk h ι, w) = rg Z d rx_m213 9 L (.int (ι a 3) :: S) (rz_mk h ι, w) := rz_gI rfl (by decide) c
theorem g213_9 : rg Z d rx_m213 9 L [.int x] (rz_mk h ι, w) = some (.inl (some (.int x)), (rz_mk h ι, w)) := rz_reti rfl rfl rfl
theorem e213 : rz_f Z (d + 1) 213 [.ref t0] σ = rg Z d rx_m213 0 [some (.ref t0)] [] σ := rz_f_eq rfl (Nat.le_of_ble_eq_true rfl)
theorem g214_0 : rg Z d rx_m214 0 [some (.ref a), l1, l2, l3, l4, l5, l6, l7, l8] S (rz_mk h ι, w) = rg Z d rx_m214 1 [some (.ref a), l1, l2, l3, l4, l5, l6, l7, l8] (.ref a :: S) (rz_mk h ι, w) := rz_s1 fun _ => rfl
theorem g214_1 (c : rz_fR h a 12 22) : rg Z d rx_m214 1 L (.ref a :: S) (rz_mk h ι, w) = rg Z d rx_m214 4 L (rz_rv h a 22 :: S) (rz_mk h ι, w) := rz_gR rfl (by decide) c
theorem g214_4 : rg Z d rx_m214 4 L S (rz_mk h ι, w) = rg Z d rx_m214 5 L (.int 0 :: S) (rz_mk h ι, w) := rz_s1 fun _ => rfl
theorem g214_5 : rg Z d rx_m214 5 [l0, some (.int x), l2, l3, l4, l5, l6, l7, l8] S (rz_mk h ι, w) = rg Z d rx_m214 6 [l0, some (.int x), l2, l3, l4, l5, l6, l7, l8] (.int x :: S) (rz_mk h ι, w) := rz_s1 fun _ => rfl
theorem g214_6 (c : rz_ar h a 0) (hi : rz_ix x (rz_ln h a)) (hz : Z.2.1 ≤ a) : rg Z d rx_m214 6 L (.int y :: .int x :: .ref a :: S) (rz_mk h ι, w) = rg Z d rx_m214 7 L S (rz_mk h (rz_up ι a x.toNatClampNeg y), w) := rz_iast rfl c hi hz
theorem g214_7 : rg Z d rx_m214 7 [some (.ref a), l1, l2, l3, l4, l5, l6, l7, l8] S (rz_mk h ι, w) = rg Z d rx_m214 8 [some (.ref a), l1, l2, l3, l4, l5, l6, l7, l8] (.ref a :: S) (rz_mk h ι, w) := rz_s1 fun _ => rfl
theorem g214_8 (c : rz_fR h a 12 22) : rg Z d rx_m214 8 L (.ref a :: S) (rz_mk h ι, w) = rg Z d rx_m214 11 L (rz_rv h a 22 :: S) (rz_mk h ι, w) := rz_gR rfl (by decide) c
theorem g214_11 : rg Z d rx_m214 11 L S (rz_mk h ι, w) = rg Z d rx_m214 12 L (.int 1 :: S) (rz_mk h ι, w) := rz_s1 fun _ => rfl
theorem g214_12 : rg Z d rx_m214 12 [l0, l1, some (.int x), l3, l4, l5, l6, l7, l8] S (rz_mk h ι, w) = rg Z d rx_m214 13 [l0, l1, some (.int x), l3, l4, l5, l6, l7, l8] (.int x :: S) (rz_mk h ι, w) := rz_s1 fun _ => rfl
theorem g214_13 (c : rz_ar h a 0) (hi : rz_ix x (rz_ln h a)) (hz : Z.2.1 ≤ a) : rg Z d rx_m214 13 L (.int y :: .int x :: .ref a :: S) (rz_mk h ι, w) = rg Z d rx_m214 14 L S (rz_mk h (rz_up ι a x.toNatClampNeg y), w) := rz_iast rfl c hi hz
theorem g214_14 : rg Z d rx_m214 14 [some (.ref a), l1, l2, l3, l4, l5, l6, l7, l8] S (rz_mk h ι, w) = rg Z d rx_m214 15 [some (.ref a), l1, l2, l3, l4, l5, l6, l7, l8] (.ref a :: S) (rz_mk h ι, w) := rz_s1 fun _ => rfl
theorem g214_15 (c : rz_fR h a 12 22) : rg Z d rx_m214 15 L (.ref a :: S) (rz_mk h ι, w) = rg Z d rx_m214 18 L (rz_rv h a 22 :: S) (rz_mk h ι, w) := rz_gR rfl (by decide) c
theorem g214_18 : rg Z d rx_m214 18 L S (rz_mk h ι, w) = rg Z d rx_m214 19 L (.int 2 :: S) (rz_mk h ι, w) := rz_s1 fun _ => rfl
theorem g214_19 : rg Z d rx_m214 19 [l0, l1, l2, some (.int x), l4, l5, l6, l7, l8] S (rz_mk h ι, w) = rg Z d rx_m214 20 [l0, l1, l2, some (.int x), l4, l5, l6, l7, l8] (.int x :: S) (rz_mk h ι, w) := rz_s1 fun _ => rfl
theorem g214_20 (c : rz_ar h a 0) (hi : rz_ix x (rz_ln h a)) (hz : Z.2.1 ≤ a) : rg Z d rx_m214 20 L (.int y :: .int x :: .ref a :: S) (rz_mk h ι, w) = rg Z d rx_m214 21 L S (rz_mk h (rz_up ι a x.toNatClampNeg y), w) := rz_iast rfl c hi hz
theorem g214_21 : rg Z d rx_m214 21 [some (.ref a), l1, l2, l3, l4, l5, l6, l7, l8] S (rz_mk h ι, w) = rg Z d rx_m214 22 [some (.ref a), l1, l2, l3, l4, l5, l6, l7, l8] (.ref a :: S) (rz_mk h ι, w) := rz_s1 fun _ => rfl
theorem g214_22 (c : rz_fR h a 12 22) : rg Z d rx_m214 22 L (.ref a :: S) (rz_mk h ι, w) = rg Z d rx_m214 25 L (rz_rv h a 22 :: S) (rz_mk h ι, w) := rz_gR rfl (by decide) c
theorem g214_25 : rg Z d rx_m214 25 L S (rz_mk h ι, w) = rg Z d rx_m214 26 L (.int 3 :: S) (rz_mk h ι, w) := rz_s1 fun _ => rfl
theorem g214_26 : rg Z d rx_m214 26 [l0, l1, l2, l3, some (.int x), l5, l6, l7, l8] S (rz_mk h ι, w) = rg Z d rx_m214 28 [l0, l1, l2, l3, some (.int x), l5, l6, l7, l8] (.int x :: S) (rz_mk h ι, w) := rz_s1 fun _ => rfl
theorem g214_28 (c : rz_ar h a 0) (hi : rz_ix x (rz_ln h a)) (hz : Z.2.1 ≤ a) : rg Z d rx_m214 28 L (.int y :: .int x :: .ref a :: S) (rz_mk h ι, w) = rg Z d rx_m214 29 L S (rz_mk h (rz_up ι a x.toNatClampNeg y), w) := rz_iast rfl c hi hz
theorem g214_29 : rg Z d rx_m214 29 [some (.ref a), l1, l2, l3, l4, l5, l6, l7, l8] S (rz_mk h ι, w) = rg Z d rx_m214 30 [some (.ref a), l1, l2, l3, l4, l5, l6, l7, l8] (.ref a :: S) (rz_mk h ι, w) := rz_s1 fun _ => rfl
theorem g214_30 (c : rz_fR h a 12 22) : rg Z d rx_m214 30 L (.ref a :: S) (rz_mk h ι, w) = rg Z d rx_m214 33 L (rz_rv h a 22 :: S) (rz_mk h ι, w) := rz_gR rfl (by decide) c
theorem g214_33 : rg Z d rx_m214 33 L S (rz_mk h ι, w) = rg Z d rx_m214 34 L (.int 4 :: S) (rz_mk h ι, w) := rz_s1 fun _ => rfl
theorem g214_34 : rg Z d rx_m214 34 [l0, l1, l2, l3, l4, some (.int x), l6, l7, l8] S (rz_mk h ι, w) = rg Z d rx_m214 36 [l0, l1, l2, l3, l4, some (.int x), l6, l7, l8] (.int x :: S) (rz_mk h ι, w) := rz_s1 fun _ => rfl
theorem g214_36 (c : rz_ar h a 0) (hi : rz_ix x (rz_ln h a)) (hz : Z.2.1 ≤ a) : rg Z d rx_m214 36 L (.int y :: .int x :: .ref a :: S) (rz_mk h ι, w) = rg Z d rx_m214 37 L S (rz_mk h (rz_up ι a x.toNatClampNeg y), w) := rz_iast rfl c hi hz
theorem g214_37 : rg Z d rx_m214 37 [some (.ref a), l1, l2, l3, l4, l5, l6, l7, l8] S (rz_mk h ι, w) = rg Z d rx_m214 38 [some (.ref a), l1, l2, l3, l4, l5, l6, l7, l8] (.ref a :: S) (rz_mk h ι, w) := rz_s1 fun _ => rfl
theorem g214_38 (c : rz_fR h a 12 22) : rg Z d rx_m214 38 L (.ref a :: S) (rz_mk h ι, w) = rg Z d rx_m214 41 L (rz_rv h a 22 :: S) (rz_mk h ι, w) := rz_gR rfl (by decide) c
theorem g214_41 : rg Z d rx_m214 41 L S (rz_mk h ι, w) = rg Z d rx_m214 42 L (.int 5 :: S) (rz_mk h ι, w) := rz_s1 fun _ => rfl
theorem g214_42 : rg Z d rx_m214 42 [l0, l1, l2, l3, l4, l5, some (.int x), l7, l8] S (rz_mk h ι, w) = rg Z d rx_m214 44 [l0, l1, l2, l3, l4, l5, some (.int x), l7, l8] (.int x :: S) (rz_mk h ι, w) := rz_s1 fun _ => rfl
theorem g214_44 (c : rz_ar h a 0) (hi : rz_ix x (rz_ln h a)) (hz : Z.2.1 ≤ a) : rg Z d rx_m214 44 L (.int y :: .int x :: .ref a :: S) (rz_mk h ι, w) = rg Z d rx_m214 45 L S (rz_mk h (rz_up ι a x.toNatClampNeg y), w) := rz_iast rfl c hi hz
theorem g214_45 : rg Z d rx_m214 45 [some (.ref a), l1, l2, l3, l4, l5, l6, l7, l8] S (rz_mk h ι, w) = rg Z d rx_m214 46 [some (.ref a), l1, l2, l3, l4, l5, l6, l7, l8] (.ref a :: S) (rz_mk h ι, w) := rz_s1 fun _ => rfl
theorem g214_46 (c : rz_fR h a 12 22) : rg Z d rx_m214 46 L (.ref a :: S) (rz_mk h ι, w) = rg Z d rx_m214 49 L (rz_rv h a 22 :: S) (rz_mk h ι, w) := rz_gR rfl (by decide) c
theorem g214_49 : rg Z d rx_m214 49 L S (rz_mk h ι, w) = rg Z d rx_m214 51 L (.int 6 :: S) (rz_mk h ι, w) := rz_s1 fun _ => rfl
theorem g214_51 : rg Z d rx_m214 51 [l0, l1, l2, l3, l4, l5, l6, some (.int x), l8] S (rz_mk h ι, w) = rg Z d rx_m214 53 [l0, l1, l2, l3, l4, l5, l6, some (.int x), l8] (.int x :: S) (rz_mk h ι, w) := rz_s1 fun _ => rfl
theorem g214_53 (c : rz_ar h a 0) (hi : rz_ix x (rz_ln h a)) (hz : Z.2.1 ≤ a) : rg Z d rx_m214 53 L (.int y :: .int x :: .ref a :: S) (rz_mk h ι, w) = rg Z d rx_m214 54 L S (rz_mk h (rz_up ι a x.toNatClampNeg y), w) := rz_iast rfl c hi hz
theorem g214_54 : rg Z d rx_m214 54 [some (.ref a), l1, l2, l3, l4, l5, l6, l7, l8] S (rz_mk h ι, w) = rg Z d rx_m214 55 [some (.ref a), l1, l2, l3, l4, l5, l6, l7, l8] (.ref a :: S) (rz_mk h ι, w) := rz_s1 fun _ => rfl
theorem g214_55 (c : rz_fR h a 12 22) : rg Z d rx_m214 55 L (.ref a :: S) (rz_mk h ι, w) = rg Z d rx_m214 58 L (rz_rv h a 22 :: S) (rz_mk h ι, w) := rz_gR rfl (by decide) c
theorem g214_58 : rg Z d rx_m214 58 L S (rz_mk h ι, w) = rg Z d rx_m214 60 L (.int 7 :: S) (rz_mk h ι, w) := rz_s1 fun _ => rfl
theorem g214_60 : rg Z d rx_m214 60 [l0, l1, l2, l3, l4, l5, l6, l7, some (.int x)] S (rz_mk h ι, w) = rg Z d rx_m214 62 [l0, l1, l2, l3, l4, l5, l6, l7, some (.int x)] (.int x :: S) (rz_mk h ι, w) := rz_s1 fun _ => rfl
theorem g214_62 (c : rz_ar h a 0) (hi : rz_ix x (rz_ln h a)) (hz : Z.2.1 ≤ a) : rg Z d rx_m214 62 L (.int y :: .int x :: .ref a :: S) (rz_mk h ι, w) = rg Z d rx_m214 63 L S (rz_mk h (rz_up ι a x.toNatClampNeg y), w) := rz_iast rfl c hi hz
theorem g214_63 : rg Z d rx_m214 63 [some (.ref a), l1, l2, l3, l4, l5, l6, l7, l8] S (rz_mk h ι, w) = rg Z d rx_m214 64 [some (.ref a), l1, l2, l3, l4, l5, l6, l7, l8] (.ref a :: S) (rz_mk h ι, w) := rz_s1 fun _ => rfl
theorem g214_64 (c : rz_oc h a 12) : rg Z d rx_m214 64 L (.ref a :: []) (rz_mk h ι, w) = rz_k true (rz_f Z d 209 [.ref a] (rz_mk h ι, w)) (fun v σ' => rg Z d rx_m214 67 L (v.toList ++ []) σ') := rz_cv (pc := 64) (n := 0) (mi := 209) (S := .ref a :: []) (rest := []) rfl rfl (Nat.le_of_ble_eq_true rfl) (Nat.le_of_ble_eq_true rfl) c
theorem g214_67 : rg Z d rx_m214 67 L [.int x] (rz_mk h ι, w) = some (.inl (some (.int x)), (rz_mk h ι, w)) := rz_reti rfl rfl rfl
theorem e214 : rz_f Z (d + 1) 214 [.ref t0, .int s1, .int s2, .int s3, .int s4, .int s5, .int s6, .int s7, .int s8] σ = rg Z d rx_m214 0 [some (.ref t0), some (.int s1), some (.int s2), some (.int s3), some (.int s4), some (.int s5), some (.int s6), some (.int s7), some (.int s8)] [] σ := rz_f_eq rfl (Nat.le_of_ble_eq_true rfl)
theorem g215_0 : rg Z d rx_m215 0 [some (.int x), l1] S (rz_mk h ι, w) = rg Z d rx_m215 1 [some (.int x), l1] (.int x :: S) (rz_mk h ι, w) := rz_s1 fun _ => rfl
theorem g215_1 : rg Z d rx_m215 1 [l0, some (.int x)] S (rz_mk h ι, w) = rg Z d rx_m215 2 [l0, some (.int x)] (.int x :: S) (rz_mk h ι, w) := rz_s1 fun _ => rfl
theorem g215_2 : rg Z d rx_m215 2 L (.int y :: .int x :: S) (rz_mk h ι, w) = rg Z d rx_m215 3 L (.int (x - y) :: S) (rz_mk h ι, w) := rz_s1 fun _ => rfl
theorem g215_3 : rg Z d rx_m215 3 [l0, some (.int x)] S (rz_mk h ι, w) = rg Z d rx_m215 4 [l0, some (.int x)] (.int x :: S) (rz_mk h ι, w) := rz_s1 fun _ => rfl
theorem g215_4 : rg Z d rx_m215 4 [some (.int x), l1] S (rz_mk h ι, w) = rg Z d rx_m215 5 [some (.int x), l1] (.int x :: S) (rz_mk h ι, w) := rz_s1 fun _ => rfl
theorem g215_5 : rg Z d rx_m215 5 L (.int y :: .int x :: S) (rz_mk h ι, w) = rg Z d rx_m215 6 L (.int (x - y) :: S) (rz_mk h ι, w) := rz_s1 fun _ => rfl
theorem g215_6 : rg Z d rx_m215 6 L (v2 :: v1 :: []) (rz_mk h ι, w) = rz_k true (rz_f Z d 177 [v1, v2] (rz_mk h ι, w)) (fun v σ' => rg Z d rx_m215 9 L (v.toList ++ []) σ') := rz_cs (pc := 6) (n := 2) (mi := 177) (S := v2 :: v1 :: []) (rest := []) rfl rfl (Nat.le_of_ble_eq_true rfl) (Nat.le_of_ble_eq_true rfl)
theorem g215_9 : rg Z d rx_m215 9 L [.int x] (rz_mk h ι, w) = some (.inl (some (.int x)), (rz_mk h ι, w)) := rz_reti rfl rfl rfl
theorem e215 : rz_f Z (d + 1) 215 [.int s0, .int s1] σ = rg Z d rx_m215 0 [some (.int s0), some (.int s1)] [] σ := rz_f_eq rfl (Nat.le_of_ble_eq_true rfl)
theorem g216_0 : rg Z d rx_m216 0 [some (.ref a), l1, l2, l3, l4, l5, l6, l7, l8, l9, l10] S (rz_mk h ι, w) = rg Z d rx_m216 1 [some (.ref a), l1, l2, l3, l4, l5, l6, l7, l8, l9, l10] (.ref a :: S) (rz_mk h ι, w) := rz_s1 fun _ => rfl
theorem g216_1 : rg Z d rx_m216 1 [l0, l1, some (.int x), l3, l4, l5, l6, l7, l8, l9, l10] S (rz_mk h ι, w) = rg Z d rx_m216 2 [l0, l1, some (.int x), l3, l4, l5, l6, l7, l8, l9, l10] (.int x :: S) (rz_mk h ι, w) := rz_s1 fun _ => rfl
theorem g216_2 : rg Z d rx_m216 2 [l0, l1, l2, l3, l4, some (.int x), l6, l7, l8, l9, l10] S (rz_mk h ι, w) = rg Z d rx_m216 4 [l0, l1, l2, l3, l4, some (.int x), l6, l7, l8, l9, l10] (.int x :: S) (rz_mk h ι, w) := rz_s1 fun _ => rfl
theorem g216_4 : rg Z d rx_m216 4 L (v2 :: v1 :: [.ref t0]) (rz_mk h ι, w) = rz_k true (rz_f Z d 215 [v1, v2] (rz_mk h ι, w)) (fun v σ' => rg Z d rx_m216 7 L (v.toList ++ [.ref t0]) σ') := rz_cs (pc := 4) (n := 2) (mi := 215) (S := v2 :: v1 :: [.ref t0]) (rest := [.ref t0]) rfl rfl (Nat.le_of_ble_eq_true rfl) (Nat.le_of_ble_eq_true rfl)
theorem g216_7 : rg Z d rx_m216 7 [l0, l1, l2, some (.int x), l4, l5, l6, l7, l8, l9, l10] S (rz_mk h ι, w) = rg Z d rx_m216 8 [l0, l1, l2, some (.int x), l4, l5, l6, l7, l8, l9, l10] (.int x :: S) (rz_mk h ι, w) := rz_s1 fun _ => rfl
theorem g216_8 : rg Z d rx_m216 8 [l0, l1, l2, l3, l4, l5, some (.int x), l7, l8, l9, l10] S (rz_mk h ι, w) = rg Z d rx_m216 10 [l0, l1, l2, l3, l4, l5, some (.int x), l7, l8, l9, l10] (.int x :: S) (rz_mk h ι, w) := rz_s1 fun _ => rfl
theorem g216_10 : rg Z d rx_m216 10 L (v2 :: v1 :: [.int s0, .ref t1]) (rz_mk h ι, w) = rz_k true (rz_f Z d 215 [v1, v2] (rz_mk h ι, w)) (fun v σ' => rg Z d rx_m216 13 L (v.toList ++ [.int s0, .ref t1]) σ') := rz_cs (pc := 10) (n := 2) (mi := 215) (S := v2 :: v1 :: [.int s0, .ref t1]) (rest := [.int s0, .ref t1]) rfl rfl (Nat.le_of_ble_eq_true rfl) (Nat.le_of_ble_eq_true rfl)
theorem g216_13 : rg Z d rx_m216 13 [l0, l1, l2, l3, some (.int x), l5, l6, l7, l8, l9, l10] S (rz_mk h ι, w) = rg Z d rx_m216 15 [l0, l1, l2, l3, some (.int x), l5, l6, l7, l8, l9, l10] (.int x :: S) (rz_mk h ι, w) := rz_s1 fun _ => rfl
theorem g216_15 : rg Z d rx_m216 15 [l0, l1, l2, l3, l4, l5, l6, some (.int x), l8, l9, l10] S (rz_mk h ι, w) = rg Z d rx_m216 17 [l0, l1, l2, l3, l4, l5, l6, some (.int x), l8, l9, l10] (.int x :: S) (rz_mk h ι, w) := rz_s1 fun _ => rfl
theorem g216_17 : rg Z d rx_m216 17 L (v2 :: v1 :: [.int s0, .int s1, .ref t2]) (rz_mk h ι, w) = rz_k true (rz_f Z d 215 [v1, v2] (rz_mk h ι, w)) (fun v σ' => rg Z d rx_m216 20 L (v.toList ++ [.int s0, .int s1, .ref t2]) σ') := rz_cs (pc := 17) (n := 2) (mi := 215) (S := v2 :: v1 :: [.int s0, .int s1, .ref t2]) (rest := [.int s0, .int s1, .ref t2]) rfl rfl (Nat.le_of_ble_eq_true rfl) (Nat.le_of_ble_eq_true rfl)
theorem g216_20 : rg Z d rx_m216 20 [l0, l1, l2, l3, l4, l5, l6, l7, some (.int x), l9, l10] S (rz_mk h ι, w) = rg Z d rx_m216 22 [l0, l1, l2, l3, l4, l5, l6, l7, some (.int x), l9, l10] (.int x :: S) (rz_mk h ι, w) := rz_s1 fun _ => rfl
theorem g216_22 : rg Z d rx_m216 22 [l0, l1, l2, l3, l4, l5, l6, l7, l8, some (.int x), l10] S (rz_mk h ι, w) = rg Z d rx_m216 24 [l0, l1, l2, l3, l4, l5, l6, l7, l8, some (.int x), l10] (.int x :: S) (rz_mk h ι, w) := rz_s1 fun _ => rfl
theorem g216_24 : rg Z d rx_m216 24 [l0, some (.ref a), l2, l3, l4, l5, l6, l7, l8, l9, l10] S (rz_mk h ι, w) = rg Z d rx_m216 25 [l0, some (.ref a), l2, l3, l4, l5, l6, l7, l8, l9, l10] (.ref a :: S) (rz_mk h ι, w) := rz_s1 fun _ => rfl
theorem g216_25 : rg Z d rx_m216 25 L S (rz_mk h ι, w) = rg Z d rx_m216 27 L (.int 59 :: S) (rz_mk h ι, w) := rz_s1 fun _ => rfl
theorem g216_27 (c : rz_ar h a 0) (hi : rz_ix x (rz_ln h a)) : rg Z d rx_m216 27 L (.int x :: .ref a :: S) (rz_mk h ι, w) = rg Z d rx_m216 28 L (.int (ι a x.toNatClampNeg) :: S) (rz_mk h ι, w) := rz_iald rfl c hi
theorem g216_28 : rg Z d rx_m216 28 [l0, some (.ref a), l2, l3, l4, l5, l6, l7, l8, l9, l10] S (rz_mk h ι, w) = rg Z d rx_m216 29 [l0, some (.ref a), l2, l3, l4, l5, l6, l7, l8, l9, l10] (.ref a :: S) (rz_mk h ι, w) := rz_s1 fun _ => rfl
theorem g216_29 : rg Z d rx_m216 29 L S (rz_mk h ι, w) = rg Z d rx_m216 31 L (.int 61 :: S) (rz_mk h ι, w) := rz_s1 fun _ => rfl
theorem g216_31 (c : rz_ar h a 0) (hi : rz_ix x (rz_ln h a)) : rg Z d rx_m216 31 L (.int x :: .ref a :: S) (rz_mk h ι, w) = rg Z d rx_m216 32 L (.int (ι a x.toNatClampNeg) :: S) (rz_mk h ι, w) := rz_iald rfl c hi
theorem g216_32 : rg Z d rx_m216 32 [l0, l1, l2, l3, l4, l5, l6, l7, l8, l9, some (.int x)] S (rz_mk h ι, w) = rg Z d rx_m216 34 [l0, l1, l2, l3, l4, l5, l6, l7, l8, l9, some (.int x)] (.int x :: S) (rz_mk h ι, w) := rz_s1 fun _ => rfl
theorem g216_34 (c : rz_oc h a 12) : rg Z d rx_m216 34 L (v8 :: v7 :: v6 :: v5 :: v4 :: v3 :: v2 :: v1 :: .ref a :: []) (rz_mk h ι, w) = rz_k true (rz_f Z d 214 [.ref a, v1, v2, v3, v4, v5, v6, v7, v8] (rz_mk h ι, w)) (fun v σ' => rg Z d rx_m216 37 L (v.toList ++ []) σ') := rz_cv (pc := 34) (n := 8) (mi := 214) (S := v8 :: v7 :: v6 :: v5 :: v4 :: v3 :: v2 :: v1 :: .ref a :: []) (rest := []) rfl rfl (Nat.le_of_ble_eq_true rfl) (Nat.le_of_ble_eq_true rfl) c
theorem g216_37 : rg Z d rx_m216 37 L [.int x] (rz_mk h ι, w) = some (.inl (some (.int x)), (rz_mk h ι, w)) := rz_reti rfl rfl rfl
theorem e216 : rz_f Z (d + 1) 216 [.ref t0, .ref t1, .int s2, .int s3, .int s4, .int s5, .int s6, .int s7, .int s8, .int s9, .int s10] σ = rg Z d rx_m216 0 [some (.ref t0), some (.ref t1), some (.int s2), some (.int s3), some (.int s4), some (.int s5), some (.int s6), some (.int s7), some (.int s8), some (.int s9), some (.int s10)] [] σ := rz_f_eq rfl (Nat.le_of_ble_eq_true rfl)
theorem g217_0 : rg Z d rx_m217 0 [some (.ref a), l1, l2] S (rz_mk h ι, w) = rg Z d rx_m217 1 [some (.ref a), l1, l2] (.ref a :: S) (rz_mk h ι, w) := rz_s1 fun _ => rfl
theorem g217_1 : rg Z d rx_m217 1 L S (rz_mk h ι, w) = rg Z d rx_m217 3 L (.int 24 :: S) (rz_mk h ι, w) := rz_s1 fun _ => rfl
theorem g217_3 : rg Z d rx_m217 3 L S (rz_mk h ι, w) = rg Z d rx_m217 4 L (.int 3 :: S) (rz_mk h ι, w) := rz_s1 fun _ => rfl
theorem g217_4 : rg Z d rx_m217 4 [l0, some (.int x), l2] S (rz_mk h ι, w) = rg Z d rx_m217 5 [l0, some (.int x), l2] (.int x :: S) (rz_mk h ι, w) := rz_s1 fun _ => rfl
theorem g217_5 : rg Z d rx_m217 5 L (.int y :: .int x :: S) (rz_mk h ι, w) = rg Z d rx_m217 6 L (.int (x * y) :: S) (rz_mk h ι, w) := rz_s1 fun _ => rfl
theorem g217_6 : rg Z d rx_m217 6 L (.int y :: .int x :: S) (rz_mk h ι, w) = rg Z d rx_m217 7 L (.int (x + y) :: S) (rz_mk h ι, w) := rz_s1 fun _ => rfl
theorem g217_7 : rg Z d rx_m217 7 [l0, l1, some (.int x)] S (rz_mk h ι, w) = rg Z d rx_m217 8 [l0, l1, some (.int x)] (.int x :: S) (rz_mk h ι, w) := rz_s1 fun _ => rfl
theorem g217_8 : rg Z d rx_m217 8 L (.int y :: .int x :: S) (rz_mk h ι, w) = rg Z d rx_m217 9 L (.int (x + y) :: S) (rz_mk h ι, w) := rz_s1 fun _ => rfl
theorem g217_9 (c : rz_ar h a 0) (hi : rz_ix x (rz_ln h a)) : rg Z d rx_m217 9 L (.int x :: .ref a :: S) (rz_mk h ι, w) = rg Z d rx_m217 10 L (.int (ι a x.toNatClampNeg) :: S) (rz_mk h ι, w) := rz_iald rfl c hi
theorem g217_10 : rg Z d rx_m217 10 L [.int x] (rz_mk h ι, w) = some (.inl (some (.int x)), (rz_mk h ι, w)) := rz_reti rfl rfl rfl
theorem e217 : rz_f Z (d + 1) 217 [.ref t0, .int s1, .int s2] σ = rg Z d rx_m217 0 [some (.ref t0), some (.int s1), some (.int s2)] [] σ := rz_f_eq rfl (Nat.le_of_ble_eq_true rfl)
theorem g218_0 : rg Z d rx_m218 0 [some (.ref a), l1, l2] S (rz_mk h ι, w) = rg Z d rx_m218 1 [some (.ref a), l1, l2] (.ref a :: S) (rz_mk h ι, w) := rz_s1 fun _ => rfl
theorem g218_1 : rg Z d rx_m218 1 L S (rz_mk h ι, w) = rg Z d rx_m218 2 L (.int 0 :: S) (rz_mk h ι, w) := rz_s1 fun _ => rfl
theorem g218_2 : rg Z d rx_m218 2 L S (rz_mk h ι, w) = rg Z d rx_m218 3 L (.int 3 :: S) (rz_mk h ι, w) := rz_s1 fun _ => rfl
theorem g218_3 : rg Z d rx_m218 3 [l0, some (.int x), l2] S (rz_mk h ι, w) = rg Z d rx_m218 4 [l0, some (.int x), l2] (.int x :: S) (rz_mk h ι, w) := rz_s1 fun _ => rfl
theorem g218_4 : rg Z d rx_m218 4 L (.int y :: .int x :: S) (rz_mk h ι, w) = rg Z d rx_m218 5 L (.int (x * y) :: S) (rz_mk h ι, w) := rz_s1 fun _ => rfl
theorem g218_5 : rg Z d rx_m218 5 L (.int y :: .int x :: S) (rz_mk h ι, w) = rg Z d rx_m218 6 L (.int (x + y) :: S) (rz_mk h ι, w) := rz_s1 fun _ => rfl
theorem g218_6 : rg Z d rx_m218 6 [l0, l1, some (.int x)] S (rz_mk h ι, w) = rg Z d rx_m218 7 [l0, l1, some (.int x)] (.int x :: S) (rz_mk h ι, w) := rz_s1 fun _ => rfl
theorem g218_7 : rg Z d rx_m218 7 L (.int y :: .int x :: S) (rz_mk h ι, w) = rg Z d rx_m218 8 L (.int (x + y) :: S) (rz_mk h ι, w) := rz_s1 fun _ => rfl
theorem g218_8 (c : rz_ar h a 0) (hi : rz_ix x (rz_ln h a)) : rg Z d rx_m218 8 L (.int x :: .ref a :: S) (rz_mk h ι, w) = rg Z d rx_m218 9 L (.int (ι a x.toNatClampNeg) :: S) (rz_mk h ι, w) := rz_iald rfl c hi
theorem g218_9 : rg Z d rx_m218 9 L [.int x] (rz_mk h ι, w) = some (.inl (some (.int x)), (rz_mk h ι, w)) := rz_reti rfl rfl rfl
theorem e218 : rz_f Z (d + 1) 218 [.ref t0, .int s1, .int s2] σ = rg Z d rx_m218 0 [some (.ref t0), some (.int s1), some (.int s2)] [] σ := rz_f_eq rfl (Nat.le_of_ble_eq_true rfl)
theorem g219_0 : rg Z d rx_m219 0 L S (rz_mk h ι, w) = rg Z d rx_m219 1 L (.int 0 :: S) (rz_mk h ι, w) := rz_s1 fun _ => rfl
theorem g219_1 : rg Z d rx_m219 1 [l0, some (.int z), l2, l3] (.int x :: S) (rz_mk h ι, w) = rg Z d rx_m219 2 [l0, some (.int z), some (.int x), l3] S (rz_mk h ι, w) := rz_s1 fun _ => rfl
theorem g219_2 : rg Z d rx_m219 2 L S (rz_mk h ι, w) = rg Z d rx_m219 3 L (.int 0 :: S) (rz_mk h ι, w) := rz_s1 fun _ => rfl
theorem g219_3 : rg Z d rx_m219 3 [l0, l1, some (.int z), l3] (.int x :: S) (rz_mk h ι, w) = rg Z d rx_m219 4 [l0, l1, some (.int z), some (.int x)] S (rz_mk h ι, w) := rz_s1 fun _ => rfl
theorem g219_4 : rg Z d rx_m219 4 [l0, l1, l2, some (.int x)] S (rz_mk h ι, w) = rg Z d rx_m219 5 [l0, l1, l2, some (.int x)] (.int x :: S) (rz_mk h ι, w) := rz_s1 fun _ => rfl
theorem g219_5 : rg Z d rx_m219 5 L S (rz_mk h ι, w) = rg Z d rx_m219 6 L (.int 3 :: S) (rz_mk h ι, w) := rz_s1 fun _ => rfl
theorem g219_6 : rg Z d rx_m219 6 L (.int y :: .int x :: S) (rz_mk h ι, w) = if x < y then rg Z d rx_m219 9 L S (rz_mk h ι, w) else rg Z d rx_m219 38 L S (rz_mk h ι, w) := rz_if2 (pc := 6) (t := 38) (off := 32) (cc := .ge) (by decide) rfl
theorem g219_9 : rg Z d rx_m219 9 [l0, l1, some (.int x), l3] S (rz_mk h ι, w) = rg Z d rx_m219 10 [l0, l1, some (.int x), l3] (.int x :: S) (rz_mk h ι, w) := rz_s1 fun _ => rfl
theorem g219_10 : rg Z d rx_m219 10 [some (.ref a), l1, l2, l3] S (rz_mk h ι, w) = rg Z d rx_m219 11 [some (.ref a), l1, l2, l3] (.ref a :: S) (rz_mk h ι, w) := rz_s1 fun _ => rfl
theorem g219_11 : rg Z d rx_m219 11 [l0, some (.int x), l2, l3] S (rz_mk h ι, w) = rg Z d rx_m219 12 [l0, some (.int x), l2, l3] (.int x :: S) (rz_mk h ι, w) := rz_s1 fun _ => rfl
theorem g219_12 : rg Z d rx_m219 12 [l0, l1, l2, some (.int x)] S (rz_mk h ι, w) = rg Z d rx_m219 13 [l0, l1, l2, some (.int x)] (.int x :: S) (rz_mk h ι, w) := rz_s1 fun _ => rfl
theorem g219_13 : rg Z d rx_m219 13 L (v3 :: v2 :: v1 :: [.int s0]) (rz_mk h ι, w) = rz_k true (rz_f Z d 217 [v1, v2, v3] (rz_mk h ι, w)) (fun v σ' => rg Z d rx_m219 16 L (v.toList ++ [.int s0]) σ') := rz_cs (pc := 13) (n := 3) (mi := 217) (S := v3 :: v2 :: v1 :: [.int s0]) (rest := [.int s0]) rfl rfl (Nat.le_of_ble_eq_true rfl) (Nat.le_of_ble_eq_true rfl)
theorem g219_16 : rg Z d rx_m219 16 [some (.ref a), l1, l2, l3] S (rz_mk h ι, w) = rg Z d rx_m219 17 [some (.ref a), l1, l2, l3] (.ref a :: S) (rz_mk h ι, w) := rz_s1 fun _ => rfl
theorem g219_17 : rg Z d rx_m219 17 [l0, some (.int x), l2, l3] S (rz_mk h ι, w) = rg Z d rx_m219 18 [l0, some (.int x), l2, l3] (.int x :: S) (rz_mk h ι, w) := rz_s1 fun _ => rfl
theorem g219_18 : rg Z d rx_m219 18 [l0, l1, l2, some (.int x)] S (rz_mk h ι, w) = rg Z d rx_m219 19 [l0, l1, l2, some (.int x)] (.int x :: S) (rz_mk h ι, w) := rz_s1 fun _ => rfl
theorem g219_19 : rg Z d rx_m219 19 L (v3 :: v2 :: v1 :: [.int s0, .int s1]) (rz_mk h ι, w) = rz_k true (rz_f Z d 218 [v1, v2, v3] (rz_mk h ι, w)) (fun v σ' => rg Z d rx_m219 22 L (v.toList ++ [.int s0, .int s1]) σ') := rz_cs (pc := 19) (n := 3) (mi := 218) (S := v3 :: v2 :: v1 :: [.int s0, .int s1]) (rest := [.int s0, .int s1]) rfl rfl (Nat.le_of_ble_eq_true rfl) (Nat.le_of_ble_eq_true rfl)
theorem g219_22 : rg Z d rx_m219 22 L (.int y :: .int x :: S) (rz_mk h ι, w) = if x = y then rg Z d rx_m219 25 L S (rz_mk h ι, w) else rg Z d rx_m219 29 L S (rz_mk h ι, w) := rz_if2 (pc := 22) (t := 29) (off := 7) (cc := .ne) (by decide) rfl
theorem g219_25 : rg Z d rx_m219 25 L S (rz_mk h ι, w) = rg Z d rx_m219 26 L (.int 0 :: S) (rz_mk h ι, w) := rz_s1 fun _ => rfl
theorem g219_26 : rg Z d rx_m219 26 L S (rz_mk h ι, w) = rg Z d rx_m219 30 L S (rz_mk h ι, w) := rz_s1 fun _ => rfl
theorem g219_29 : rg Z d rx_m219 29 L S (rz_mk h ι, w) = rg Z d rx_m219 30 L (.int 1 :: S) (rz_mk h ι, w) := rz_s1 fun _ => rfl
theorem g219_30 : rg Z d rx_m219 30 L (.int y :: .int x :: S) (rz_mk h ι, w) = rg Z d rx_m219 31 L (.int (x + y) :: S) (rz_mk h ι, w) := rz_s1 fun _ => rfl
theorem g219_31 : rg Z d rx_m219 31 [l0, some (.int z), l2, l3] (.int x :: S) (rz_mk h ι, w) = rg Z d rx_m219 32 [l0, some (.int z), some (.int x), l3] S (rz_mk h ι, w) := rz_s1 fun _ => rfl
theorem g219_32 : rg Z d rx_m219 32 [l0, l1, some (.int z), some (.int x)] S (rz_mk h ι, w) = rg Z d rx_m219 35 [l0, l1, some (.int z), some (.int (x + 1))] S (rz_mk h ι, w) := rz_s1 fun _ => rfl
theorem g219_35 : rg Z d rx_m219 35 L S (rz_mk h ι, w) = rg Z d rx_m219 4 L S (rz_mk h ι, w) := rz_s1 fun _ => rfl
theorem g219_38 : rg Z d rx_m219 38 [l0, l1, some (.int x), l3] S (rz_mk h ι, w) = rg Z d rx_m219 39 [l0, l1, some (.int x), l3] (.int x :: S) (rz_mk h ι, w) := rz_s1 fun _ => rfl
theorem g219_39 : rg Z d rx_m219 39 L [.int x] (rz_mk h ι, w) = some (.inl (some (.int x)), (rz_mk h ι, w)) := rz_reti rfl rfl rfl
theorem e219 : rz_f Z (d + 1) 219 [.ref t0, .int s1] σ = rg Z d rx_m219 0 [some (.ref t0), some (.int s1), none, none] [] σ := rz_f_eq rfl (Nat.le_of_ble_eq_true rfl)
theorem g220_0 : rg Z d rx_m220 0 [some (.ref a), l1, l2, l3, l4, l5] S (rz_mk h ι, w) = rg Z d rx_m220 1 [some (.ref a), l1, l2, l3, l4, l5] (.ref a :: S) (rz_mk h ι, w) := rz_s1 fun _ => rfl
theorem g220_1 : rg Z d rx_m220 1 [l0, some (.ref a), l2, l3, l4, l5] S (rz_mk h ι, w) = rg Z d rx_m220 2 [l0, some (.ref a), l2, l3, l4, l5] (.ref a :: S) (rz_mk h ι, w) := rz_s1 fun _ => rfl
theorem g220_2 : rg Z d rx_m220 2 [l0, some (.ref a), l2, l3, l4, l5] S (rz_mk h ι, w) = rg Z d rx_m220 3 [l0, some (.ref a), l2, l3, l4, l5] (.ref a :: S) (rz_mk h ι, w) := rz_s1 fun _ => rfl
theorem g220_3 : rg Z d rx_m220 3 [l0, l1, some (.int x), l3, l4, l5] S (rz_mk h ι, w) = rg Z d rx_m220 4 [l0, l1, some (.int x), l3, l4, l5] (.int x :: S) (rz_mk h ι, w) := rz_s1 fun _ => rfl
theorem g220_4 : rg Z d rx_m220 4 L S (rz_mk h ι, w) = rg Z d rx_m220 5 L (.int 0 :: S) (rz_mk h ι, w) := rz_s1 fun _ => rfl
theorem g220_5 : rg Z d rx_m220 5 L (v3 :: v2 :: v1 :: [.ref t0, .ref t1]) (rz_mk h ι, w) = rz_k true (rz_f Z d 217 [v1, v2, v3] (rz_mk h ι, w)) (fun v σ' => rg Z d rx_m220 8 L (v.toList ++ [.ref t0, .ref t1]) σ') := rz_cs (pc := 5) (n := 3) (mi := 217) (S := v3 :: v2 :: v1 :: [.ref t0, .ref t1]) (rest := [.ref t0, .ref t1]) rfl rfl (Nat.le_of_ble_eq_true rfl) (Nat.le_of_ble_eq_true rfl)
theorem g220_8 : rg Z d rx_m220 8 [l0, some (.ref a), l2, l3, l4, l5] S (rz_mk h ι, w) = rg Z d rx_m220 9 [l0, some (.ref a), l2, l3, l4, l5] (.ref a :: S) (rz_mk h ι, w) := rz_s1 fun _ => rfl
theorem g220_9 : rg Z d rx_m220 9 [l0, l1, some (.int x), l3, l4, l5] S (rz_mk h ι, w) = rg Z d rx_m220 10 [l0, l1, some (.int x), l3, l4, l5] (.int x :: S) (rz_mk h ι, w) := rz_s1 fun _ => rfl
theorem g220_10 : rg Z d rx_m220 10 L S (rz_mk h ι, w) = rg Z d rx_m220 11 L (.int 1 :: S) (rz_mk h ι, w) := rz_s1 fun _ => rfl
theorem g220_11 : rg Z d rx_m220 11 L (v3 :: v2 :: v1 :: [.int s0, .ref t1, .ref t2]) (rz_mk h ι, w) = rz_k true (rz_f Z d 217 [v1, v2, v3] (rz_mk h ι, w)) (fun v σ' => rg Z d rx_m220 14 L (v.toList ++ [.int s0, .ref t1, .ref t2]) σ') := rz_cs (pc := 11) (n := 3) (mi := 217) (S := v3 :: v2 :: v1 :: [.int s0, .ref t1, .ref t2]) (rest := [.int s0, .ref t1, .ref t2]) rfl rfl (Nat.le_of_ble_eq_true rfl) (Nat.le_of_ble_eq_true rfl)
theorem g220_14 : rg Z d rx_m220 14 [l0, some (.ref a), l2, l3, l4, l5] S (rz_mk h ι, w) = rg Z d rx_m220 15 [l0, some (.ref a), l2, l3, l4, l5] (.ref a :: S) (rz_mk h ι, w) := rz_s1 fun _ => rfl
theorem g220_15 : rg Z d rx_m220 15 [l0, l1, some (.int x), l3, l4, l5] S (rz_mk h ι, w) = rg Z d rx_m220 16 [l0, l1, some (.int x), l3, l4, l5] (.int x :: S) (rz_mk h ι, w) := rz_s1 fun _ => rfl
theorem g220_16 : rg Z d rx_m220 16 L S (rz_mk h ι, w) = rg Z d rx_m220 17 L (.int 2 :: S) (rz_mk h ι, w) := rz_s1 fun _ => rfl
theorem g220_17 : rg Z d rx_m220 17 L (v3 :: v2 :: v1 :: [.int s0, .int s1, .ref t2, .ref t3]) (rz_mk h ι, w) = rz_k true (rz_f Z d 217 [v1, v2, v3] (rz_mk h ι, w)) (fun v σ' => rg Z d rx_m220 20 L (v.toList ++ [.int s0, .int s1, .ref t2, .ref t3]) σ') := rz_cs (pc := 17) (n := 3) (mi := 217) (S := v3 :: v2 :: v1 :: [.int s0, .int s1, .ref t2, .ref t3]) (rest := [.int s0, .int s1, .ref t2, .ref t3]) rfl rfl (Nat.le_of_ble_eq_true rfl) (Nat.le_of_ble_eq_true rfl)
theorem g220_20 : rg Z d rx_m220 20 [l0, l1, l2, some (.int x), l4, l5] S (rz_mk h ι, w) = rg Z d rx_m220 21 [l0, l1, l2, some (.int x), l4, l5] (.int x :: S) (rz_mk h ι, w) := rz_s1 fun _ => rfl
theorem g220_21 : rg Z d rx_m220 21 [l0, l1, l2, l3, some (.int x), l5] S (rz_mk h ι, w) = rg Z d rx_m220 23 [l0, l1, l2, l3, some (.int x), l5] (.int x :: S) (rz_mk h ι, w) := rz_s1 fun _ => rfl
theorem g220_23 : rg Z d rx_m220 23 [l0, l1, l2, l3, l4, some (.int x)] S (rz_mk h ι, w) = rg Z d rx_m220 25 [l0, l1, l2, l3, l4, some (.int x)] (.int x :: S) (rz_mk h ι, w) := rz_s1 fun _ => rfl
theorem g220_25 : rg Z d rx_m220 25 [l0, some (.ref a), l2, l3, l4, l5] S (rz_mk h ι, w) = rg Z d rx_m220 26 [l0, some (.ref a), l2, l3, l4, l5] (.ref a :: S) (rz_mk h ι, w) := rz_s1 fun _ => rfl
theorem g220_26 : rg Z d rx_m220 26 [l0, l1, some (.int x), l3, l4, l5] S (rz_mk h ι, w) = rg Z d rx_m220 27 [l0, l1, some (.int x), l3, l4, l5] (.int x :: S) (rz_mk h ι, w) := rz_s1 fun _ => rfl
theorem g220_27 : rg Z d rx_m220 27 L (v2 :: v1 :: [.int s0, .int s1, .int s2, .int s3, .int s4, .int s5, .ref t6, .ref t7]) (rz_mk h ι, w) = rz_k true (rz_f Z d 219 [v1, v2] (rz_mk h ι, w)) (fun v σ' => rg Z d rx_m220 30 L (v.toList ++ [.int s0, .int s1, .int s2, .int s3, .int s4, .int s5, .ref t6, .ref t7]) σ') := rz_cs (pc := 27) (n := 2) (mi := 219) (S := v2 :: v1 :: [.int s0, .int s1, .int s2, .int s3, .int s4, .int s5, .ref t6, .ref t7]) (rest := [.int s0, .int s1, .int s2, .int s3, .int s4, .int s5, .ref t6, .ref t7]) rfl rfl (Nat.le_of_ble_eq_true rfl) (Nat.le_of_ble_eq_true rfl)
theorem g220_30 : rg Z d rx_m220 30 [l0, some (.ref a), l2, l3, l4, l5] S (rz_mk h ι, w) = rg Z d rx_m220 31 [l0, some (.ref a), l2, l3, l4, l5] (.ref a :: S) (rz_mk h ι, w) := rz_s1 fun _ => rfl
theorem g220_31 : rg Z d rx_m220 31 L S (rz_mk h ι, w) = rg Z d rx_m220 33 L (.int 48 :: S) (rz_mk h ι, w) := rz_s1 fun _ => rfl
theorem g220_33 : rg Z d rx_m220 33 [l0, l1, some (.int x), l3, l4, l5] S (rz_mk h ι, w) = rg Z d rx_m220 34 [l0, l1, some (.int x), l3, l4, l5] (.int x :: S) (rz_mk h ι, w) := rz_s1 fun _ => rfl
theorem g220_34 : rg Z d rx_m220 34 L (.int y :: .int x :: S) (rz_mk h ι, w) = rg Z d rx_m220 35 L (.int (x + y) :: S) (rz_mk h ι, w) := rz_s1 fun _ => rfl
theorem g220_35 (c : rz_ar h a 0) (hi : rz_ix x (rz_ln h a)) : rg Z d rx_m220 35 L (.int x :: .ref a :: S) (rz_mk h ι, w) = rg Z d rx_m220 36 L (.int (ι a x.toNatClampNeg) :: S) (rz_mk h ι, w) := rz_iald rfl c hi
theorem g220_36 : rg Z d rx_m220 36 [l0, l1, some (.int x), l3, l4, l5] S (rz_mk h ι, w) = rg Z d rx_m220 37 [l0, l1, some (.int x), l3, l4, l5] (.int x :: S) (rz_mk h ι, w) := rz_s1 fun _ => rfl
theorem g220_37 (c : rz_oc h a 12) : rg Z d rx_m220 37 L (v10 :: v9 :: v8 :: v7 :: v6 :: v5 :: v4 :: v3 :: v2 :: v1 :: .ref a :: []) (rz_mk h ι, w) = rz_k true (rz_f Z d 216 [.ref a, v1, v2, v3, v4, v5, v6, v7, v8, v9, v10] (rz_mk h ι, w)) (fun v σ' => rg Z d rx_m220 40 L (v.toList ++ []) σ') := rz_cv (pc := 37) (n := 10) (mi := 216) (S := v10 :: v9 :: v8 :: v7 :: v6 :: v5 :: v4 :: v3 :: v2 :: v1 :: .ref a :: []) (rest := []) rfl rfl (Nat.le_of_ble_eq_true rfl) (Nat.le_of_ble_eq_true rfl) c
theorem g220_40 : rg Z d rx_m220 40 L [.int x] (rz_mk h ι, w) = some (.inl (some (.int x)), (rz_mk h ι, w)) := rz_reti rfl rfl rfl
theorem e220 : rz_f Z (d + 1) 220 [.ref t0, .ref t1, .int s2, .int s3, .int s4, .int s5] σ = rg Z d rx_m220 0 [some (.ref t0), some (.ref t1), some (.int s2), some (.int s3), some (.int s4), some (.int s5)] [] σ := rz_f_eq rfl (Nat.le_of_ble_eq_true rfl)
theorem g221_0 : rg Z d rx_m221 0 [some (.ref a), l1, l2, l3] S (rz_mk h ι, w) = rg Z d rx_m221 1 [some (.ref a), l1, l2, l3] (.ref a :: S) (rz_mk h ι, w) := rz_s1 fun _ => rfl
theorem g221_1 : rg Z d rx_m221 1 [l0, some (.ref a), l2, l3] S (rz_mk h ι, w) = rg Z d rx_m221 2 [l0, some (.ref a), l2, l3] (.ref a :: S) (rz_mk h ι, w) := rz_s1 fun _ => rfl
theorem g221_2 : rg Z d rx_m221 2 [l0, l1, some (.int x), l3] S (rz_mk h ι, w) = rg Z d rx_m221 3 [l0, l1, some (.int x), l3] (.int x :: S) (rz_mk h ι, w) := rz_s1 fun _ => rfl
theorem g221_3 : rg Z d rx_m221 3 [l0, some (.ref a), l2, l3] S (rz_mk h ι, w) = rg Z d rx_m221 4 [l0, some (.ref a), l2, l3] (.ref a :: S) (rz_mk h ι, w) := rz_s1 fun _ => rfl
theorem g221_4 : rg Z d rx_m221 4 [l0, l1, l2, some (.int x)] S (rz_mk h ι, w) = rg Z d rx_m221 5 [l0, l1, l2, some (.int x)] (.int x :: S) (rz_mk h ι, w) := rz_s1 fun _ => rfl
theorem g221_5 : rg Z d rx_m221 5 L S (rz_mk h ι, w) = rg Z d rx_m221 6 L (.int 0 :: S) (rz_mk h ι, w) := rz_s1 fun _ => rfl
theorem g221_6 : rg Z d rx_m221 6 L (v3 :: v2 :: v1 :: [.int s0, .ref t1, .ref t2]) (rz_mk h ι, w) = rz_k true (rz_f Z d 217 [v1, v2, v3] (rz_mk h ι, w)) (fun v σ' => rg Z d rx_m221 9 L (v.toList ++ [.int s0, .ref t1, .ref t2]) σ') := rz_cs (pc := 6) (n := 3) (mi := 217) (S := v3 :: v2 :: v1 :: [.int s0, .ref t1, .ref t2]) (rest := [.int s0, .ref t1, .ref t2]) rfl rfl (Nat.le_of_ble_eq_true rfl) (Nat.le_of_ble_eq_true rfl)
theorem g221_9 : rg Z d rx_m221 9 [l0, some (.ref a), l2, l3] S (rz_mk h ι, w) = rg Z d rx_m221 10 [l0, some (.ref a), l2, l3] (.ref a :: S) (rz_mk h ι, w) := rz_s1 fun _ => rfl
theorem g221_10 : rg Z d rx_m221 10 [l0, l1, l2, some (.int x)] S (rz_mk h ι, w) = rg Z d rx_m221 11 [l0, l1, l2, some (.int x)] (.int x :: S) (rz_mk h ι, w) := rz_s1 fun _ => rfl
theorem g221_11 : rg Z d rx_m221 11 L S (rz_mk h ι, w) = rg Z d rx_m221 12 L (.int 1 :: S) (rz_mk h ι, w) := rz_s1 fun _ => rfl
theorem g221_12 : rg Z d rx_m221 12 L (v3 :: v2 :: v1 :: [.int s0, .int s1, .ref t2, .ref t3]) (rz_mk h ι, w) = rz_k true (rz_f Z d 217 [v1, v2, v3] (rz_mk h ι, w)) (fun v σ' => rg Z d rx_m221 15 L (v.toList ++ [.int s0, .int s1, .ref t2, .ref t3]) σ') := rz_cs (pc := 12) (n := 3) (mi := 217) (S := v3 :: v2 :: v1 :: [.int s0, .int s1, .ref t2, .ref t3]) (rest := [.int s0, .int s1, .ref t2, .ref t3]) rfl rfl (Nat.le_of_ble_eq_true rfl) (Nat.le_of_ble_eq_true rfl)
theorem g221_15 : rg Z d rx_m221 15 [l0, some (.ref a), l2, l3] S (rz_mk h ι, w) = rg Z d rx_m221 16 [l0, some (.ref a), l2, l3] (.ref a :: S) (rz_mk h ι, w) := rz_s1 fun _ => rfl
theorem g221_16 : rg Z d rx_m221 16 [l0, l1, l2, some (.int x)] S (rz_mk h ι, w) = rg Z d rx_m221 17 [l0, l1, l2, some (.int x)] (.int x :: S) (rz_mk h ι, w) := rz_s1 fun _ => rfl
theorem g221_17 : rg Z d rx_m221 17 L S (rz_mk h ι, w) = rg Z d rx_m221 18 L (.int 2 :: S) (rz_mk h ι, w) := rz_s1 fun _ => rfl
theorem g221_18 : rg Z d rx_m221 18 L (v3 :: v2 :: v1 :: [.int s0, .int s1, .int s2, .ref t3, .ref t4]) (rz_mk h ι, w) = rz_k true (rz_f Z d 217 [v1, v2, v3] (rz_mk h ι, w)) (fun v σ' => rg Z d rx_m221 21 L (v.toList ++ [.int s0, .int s1, .int s2, .ref t3, .ref t4]) σ') := rz_cs (pc := 18) (n := 3) (mi := 217) (S := v3 :: v2 :: v1 :: [.int s0, .int s1, .int s2, .ref t3, .ref t4]) (rest := [.int s0, .int s1, .int s2, .ref t3, .ref t4]) rfl rfl (Nat.le_of_ble_eq_true rfl) (Nat.le_of_ble_eq_true rfl)
theorem g221_21 (c : rz_oc h a 12) : rg Z d rx_m221 21 L (v5 :: v4 :: v3 :: v2 :: v1 :: .ref a :: []) (rz_mk h ι, w) = rz_k true (rz_f Z d 220 [.ref a, v1, v2, v3, v4, v5] (rz_mk h ι, w)) (fun v σ' => rg Z d rx_m221 24 L (v.toList ++ []) σ') := rz_cv (pc := 21) (n := 5) (mi := 220) (S := v5 :: v4 :: v3 :: v2 :: v1 :: .ref a :: []) (rest := []) rfl rfl (Nat.le_of_ble_eq_true rfl) (Nat.le_of_ble_eq_true rfl) c
theorem g221_24 : rg Z d rx_m221 24 L [.int x] (rz_mk h ι, w) = some (.inl (some (.int x)), (rz_mk h ι, w)) := rz_reti rfl rfl rfl
theorem e221 : rz_f Z (d + 1) 221 [.ref t0, .ref t1, .int s2, .int s3] σ = rg Z d rx_m221 0 [some (.ref t0), some (.ref t1), some (.int s2), some (.int s3)] [] σ := rz_f_eq rfl (Nat.le_of_ble_eq_true rfl)
theorem g222_0 : rg Z d rx_m222 0 [some (.ref a), l1] S (rz_mk h ι, w) = rg Z d rx_m222 1 [some (.ref a), l1] (.ref a :: S) (rz_mk h ι, w) := rz_s1 fun _ => rfl
theorem g222_1 : rg Z d rx_m222 1 L S (rz_mk h ι, w) = rg Z d rx_m222 3 L (.int 56 :: S) (rz_mk h ι, w) := rz_s1 fun _ => rfl
theorem g222_3 (c : rz_ar h a 0) (hi : rz_ix x (rz_ln h a)) : rg Z d rx_m222 3 L (.int x :: .ref a :: S) (rz_mk h ι, w) = rg Z d rx_m222 4 L (.int (ι a x.toNatClampNeg) :: S) (rz_mk h ι, w) := rz_iald rfl c hi
theorem g222_4 : rg Z d rx_m222 4 [l0, some (.int x)] S (rz_mk h ι, w) = rg Z d rx_m222 5 [l0, some (.int x)] (.int x :: S) (rz_mk h ι, w) := rz_s1 fun _ => rfl
theorem g222_5 : rg Z d rx_m222 5 L (v2 :: v1 :: []) (rz_mk h ι, w) = rz_k true (rz_f Z d 178 [v1, v2] (rz_mk h ι, w)) (fun v σ' => rg Z d rx_m222 8 L (v.toList ++ []) σ') := rz_cs (pc := 5) (n := 2) (mi := 178) (S := v2 :: v1 :: []) (rest := []) rfl rfl (Nat.le_of_ble_eq_true rfl) (Nat.le_of_ble_eq_true rfl)
theorem g222_8 (c : narrow .boolean (.int x) = .int x) : rg Z d rx_m222 8 L [.int x] (rz_mk h ι, w) = some (.inl (some (.int x)), (rz_mk h ι, w)) := rz_reti rfl rfl c
theorem e222 : rz_f Z (d + 1) 222 [.ref t0, .int s1] σ = rg Z d rx_m222 0 [some (.ref t0), some (.int s1)] [] σ := rz_f_eq rfl (Nat.le_of_ble_eq_true rfl)
theorem g223_0 : rg Z d rx_m223 0 L S (rz_mk h ι, w) = rg Z d rx_m223 1 L (.int (-1) :: S) (rz_mk h ι, w) := rz_s1 fun _ => rfl
theorem g223_1 : rg Z d rx_m223 1 [l0, l1, some (.int z), l3, l4, l5] (.int x :: S) (rz_mk h ι, w) = rg Z d rx_m223 2 [l0, l1, some (.int z), some (.int x), l4, l5] S (rz_mk h ι, w) := rz_s1 fun _ => rfl
theorem g223_2 : rg Z d rx_m223 2 L S (rz_mk h ι, w) = rg Z d rx_m223 3 L (.int (-1) :: S) (rz_mk h ι, w) := rz_s1 fun _ => rfl
theorem g223_3 : rg Z d rx_m223 3 [l0, l1, l2, some (.int z), l4, l5] (.int x :: S) (rz_mk h ι, w) = rg Z d rx_m223 5 [l0, l1, l2, some (.int z), some (.int x), l5] S (rz_mk h ι, w) := rz_s1 fun _ => rfl
theorem g223_5 : rg Z d rx_m223 5 L S (rz_mk h ι, w) = rg Z d rx_m223 6 L (.int 0 :: S) (rz_mk h ι, w) := rz_s1 fun _ => rfl
theorem g223_6 : rg Z d rx_m223 6 [l0, l1, l2, l3, some (.int z), l5] (.int x :: S) (rz_mk h ι, w) = rg Z d rx_m223 8 [l0, l1, l2, l3, some (.int z), some (.int x)] S (rz_mk h ι, w) := rz_s1 fun _ => rfl
theorem g223_8 : rg Z d rx_m223 8 [l0, l1, l2, l3, l4, some (.int x)] S (rz_mk h ι, w) = rg Z d rx_m223 10 [l0, l1, l2, l3, l4, some (.int x)] (.int x :: S) (rz_mk h ι, w) := rz_s1 fun _ => rfl
theorem g223_10 : rg Z d rx_m223 10 [l0, some (.ref a), l2, l3, l4, l5] S (rz_mk h ι, w) = rg Z d rx_m223 11 [l0, some (.ref a), l2, l3, l4, l5] (.ref a :: S) (rz_mk h ι, w) := rz_s1 fun _ => rfl
theorem g223_11 : rg Z d rx_m223 11 L S (rz_mk h ι, w) = rg Z d rx_m223 13 L (.int 57 :: S) (rz_mk h ι, w) := rz_s1 fun _ => rfl
theorem g223_13 (c : rz_ar h a 0) (hi : rz_ix x (rz_ln h a)) : rg Z d rx_m223 13 L (.int x :: .ref a :: S) (rz_mk h ι, w) = rg Z d rx_m223 14 L (.int (ι a x.toNatClampNeg) :: S) (rz_mk h ι, w) := rz_iald rfl c hi
theorem g223_14 : rg Z d rx_m223 14 L (.int y :: .int x :: S) (rz_mk h ι, w) = if x < y then rg Z d rx_m223 17 L S (rz_mk h ι, w) else rg Z d rx_m223 67 L S (rz_mk h ι, w) := rz_if2 (pc := 14) (t := 67) (off := 53) (cc := .ge) (by decide) rfl
theorem g223_17 : rg Z d rx_m223 17 [l0, l1, l2, l3, l4, some (.int x)] S (rz_mk h ι, w) = rg Z d rx_m223 19 [l0, l1, l2, l3, l4, some (.int x)] (.int x :: S) (rz_mk h ι, w) := rz_s1 fun _ => rfl
theorem g223_19 : rg Z d rx_m223 19 [l0, l1, some (.int x), l3, l4, l5] S (rz_mk h ι, w) = rg Z d rx_m223 20 [l0, l1, some (.int x), l3, l4, l5] (.int x :: S) (rz_mk h ι, w) := rz_s1 fun _ => rfl
theorem g223_20 : rg Z d rx_m223 20 L (.int y :: .int x :: S) (rz_mk h ι, w) = if x = y then rg Z d rx_m223 61 L S (rz_mk h ι, w) else rg Z d rx_m223 23 L S (rz_mk h ι, w) := rz_if2 (pc := 20) (t := 61) (off := 41) (cc := .eq) (by decide) rfl
theorem g223_23 : rg Z d rx_m223 23 [l0, some (.ref a), l2, l3, l4, l5] S (rz_mk h ι, w) = rg Z d rx_m223 24 [l0, some (.ref a), l2, l3, l4, l5] (.ref a :: S) (rz_mk h ι, w) := rz_s1 fun _ => rfl
theorem g223_24 : rg Z d rx_m223 24 [l0, l1, l2, l3, l4, some (.int x)] S (rz_mk h ι, w) = rg Z d rx_m223 26 [l0, l1, l2, l3, l4, some (.int x)] (.int x :: S) (rz_mk h ι, w) := rz_s1 fun _ => rfl
theorem g223_26 : rg Z d rx_m223 26 L (v2 :: v1 :: []) (rz_mk h ι, w) = rz_k true (rz_f Z d 222 [v1, v2] (rz_mk h ι, w)) (fun v σ' => rg Z d rx_m223 29 L (v.toList ++ []) σ') := rz_cs (pc := 26) (n := 2) (mi := 222) (S := v2 :: v1 :: []) (rest := []) rfl rfl (Nat.le_of_ble_eq_true rfl) (Nat.le_of_ble_eq_true rfl)
theorem g223_29 : rg Z d rx_m223 29 L (.int x :: S) (rz_mk h ι, w) = if x = 0 then rg Z d rx_m223 61 L S (rz_mk h ι, w) else rg Z d rx_m223 32 L S (rz_mk h ι, w) := rz_if1 (pc := 29) (t := 61) (off := 32) (cc := .eq) (by decide) rfl
theorem g223_32 : rg Z d rx_m223 32 [some (.ref a), l1, l2, l3, l4, l5] S (rz_mk h ι, w) = rg Z d rx_m223 33 [some (.ref a), l1, l2, l3, l4, l5] (.ref a :: S) (rz_mk h ι, w) := rz_s1 fun _ => rfl
theorem g223_33 : rg Z d rx_m223 33 [l0, some (.ref a), l2, l3, l4, l5] S (rz_mk h ι, w) = rg Z d rx_m223 34 [l0, some (.ref a), l2, l3, l4, l5] (.ref a :: S) (rz_mk h ι, w) := rz_s1 fun _ => rfl
theorem g223_34 : rg Z d rx_m223 34 [l0, l1, l2, l3, l4, some (.int x)] S (rz_mk h ι, w) = rg Z d rx_m223 36 [l0, l1, l2, l3, l4, some (.int x)] (.int x :: S) (rz_mk h ι, w) := rz_s1 fun _ => rfl
theorem g223_36 : rg Z d rx_m223 36 [l0, l1, some (.int x), l3, l4, l5] S (rz_mk h ι, w) = rg Z d rx_m223 37 [l0, l1, some (.int x), l3, l4, l5] (.int x :: S) (rz_mk h ι, w) := rz_s1 fun _ => rfl
theorem g223_37 (c : rz_oc h a 12) : rg Z d rx_m223 37 L (v3 :: v2 :: v1 :: .ref a :: []) (rz_mk h ι, w) = rz_k true (rz_f Z d 221 [.ref a, v1, v2, v3] (rz_mk h ι, w)) (fun v σ' => rg Z d rx_m223 40 L (v.toList ++ []) σ') := rz_cv (pc := 37) (n := 3) (mi := 221) (S := v3 :: v2 :: v1 :: .ref a :: []) (rest := []) rfl rfl (Nat.le_of_ble_eq_true rfl) (Nat.le_of_ble_eq_true rfl) c
theorem g223_40 : rg Z d rx_m223 40 [l0, l1, l2, l3, some (.int x), l5] S (rz_mk h ι, w) = rg Z d rx_m223 42 [l0, l1, l2, l3, some (.int x), l5] (.int x :: S) (rz_mk h ι, w) := rz_s1 fun _ => rfl
theorem g223_42 : rg Z d rx_m223 42 L (.int y :: .int x :: S) (rz_mk h ι, w) = if y < x then rg Z d rx_m223 48 L S (rz_mk h ι, w) else rg Z d rx_m223 45 L S (rz_mk h ι, w) := rz_if2 (pc := 42) (t := 48) (off := 6) (cc := .gt) (by decide) rfl
theorem g223_45 : rg Z d rx_m223 45 L S (rz_mk h ι, w) = rg Z d rx_m223 61 L S (rz_mk h ι, w) := rz_s1 fun _ => rfl
theorem g223_48 : rg Z d rx_m223 48 [l0, l1, l2, l3, l4, some (.int x)] S (rz_mk h ι, w) = rg Z d rx_m223 50 [l0, l1, l2, l3, l4, some (.int x)] (.int x :: S) (rz_mk h ι, w) := rz_s1 fun _ => rfl
theorem g223_50 : rg Z d rx_m223 50 [l0, l1, some (.int z), l3, l4, l5] (.int x :: S) (rz_mk h ι, w) = rg Z d rx_m223 51 [l0, l1, some (.int z), some (.int x), l4, l5] S (rz_mk h ι, w) := rz_s1 fun _ => rfl
theorem g223_51 : rg Z d rx_m223 51 [some (.ref a), l1, l2, l3, l4, l5] S (rz_mk h ι, w) = rg Z d rx_m223 52 [some (.ref a), l1, l2, l3, l4, l5] (.ref a :: S) (rz_mk h ι, w) := rz_s1 fun _ => rfl
theorem g223_52 : rg Z d rx_m223 52 [l0, some (.ref a), l2, l3, l4, l5] S (rz_mk h ι, w) = rg Z d rx_m223 53 [l0, some (.ref a), l2, l3, l4, l5] (.ref a :: S) (rz_mk h ι, w) := rz_s1 fun _ => rfl
theorem g223_53 : rg Z d rx_m223 53 [l0, l1, l2, l3, l4, some (.int x)] S (rz_mk h ι, w) = rg Z d rx_m223 55 [l0, l1, l2, l3, l4, some (.int x)] (.int x :: S) (rz_mk h ι, w) := rz_s1 fun _ => rfl
theorem g223_55 : rg Z d rx_m223 55 [l0, l1, some (.int x), l3, l4, l5] S (rz_mk h ι, w) = rg Z d rx_m223 56 [l0, l1, some (.int x), l3, l4, l5] (.int x :: S) (rz_mk h ι, w) := rz_s1 fun _ => rfl
theorem g223_56 (c : rz_oc h a 12) : rg Z d rx_m223 56 L (v3 :: v2 :: v1 :: .ref a :: []) (rz_mk h ι, w) = rz_k true (rz_f Z d 221 [.ref a, v1, v2, v3] (rz_mk h ι, w)) (fun v σ' => rg Z d rx_m223 59 L (v.toList ++ []) σ') := rz_cv (pc := 56) (n := 3) (mi := 221) (S := v3 :: v2 :: v1 :: .ref a :: []) (rest := []) rfl rfl (Nat.le_of_ble_eq_true rfl) (Nat.le_of_ble_eq_true rfl) c
theorem g223_59 : rg Z d rx_m223 59 [l0, l1, l2, some (.int z), l4, l5] (.int x :: S) (rz_mk h ι, w) = rg Z d rx_m223 61 [l0, l1, l2, some (.int z), some (.int x), l5] S (rz_mk h ι, w) := rz_s1 fun _ => rfl
theorem g223_61 : rg Z d rx_m223 61 [l0, l1, l2, l3, some (.int z), some (.int x)] S (rz_mk h ι, w) = rg Z d rx_m223 64 [l0, l1, l2, l3, some (.int z), some (.int (x + 1))] S (rz_mk h ι, w) := rz_s1 fun _ => rfl
theorem g223_64 : rg Z d rx_m223 64 L S (rz_mk h ι, w) = rg Z d rx_m223 8 L S (rz_mk h ι, w) := rz_s1 fun _ => rfl
theorem g223_67 : rg Z d rx_m223 67 [l0, l1, l2, some (.int x), l4, l5] S (rz_mk h ι, w) = rg Z d rx_m223 68 [l0, l1, l2, some (.int x), l4, l5] (.int x :: S) (rz_mk h ι, w) := rz_s1 fun _ => rfl
theorem g223_68 : rg Z d rx_m223 68 L [.int x] (rz_mk h ι, w) = some (.inl (some (.int x)), (rz_mk h ι, w)) := rz_reti rfl rfl rfl
theorem e223 : rz_f Z (d + 1) 223 [.ref t0, .ref t1, .int s2] σ = rg Z d rx_m223 0 [some (.ref t0), some (.ref t1), some (.int s2), none, none, none] [] σ := rz_f_eq rfl (Nat.le_of_ble_eq_true rfl)
theorem g224_0 : rg Z d rx_m224 0 [l0, some (.ref a)] S (rz_mk h ι, w) = rg Z d rx_m224 1 [l0, some (.ref a)] (.ref a :: S) (rz_mk h ι, w) := rz_s1 fun _ => rfl
theorem g224_1 : rg Z d rx_m224 1 L S (rz_mk h ι, w) = rg Z d rx_m224 3 L (.int 58 :: S) (rz_mk h ι, w) := rz_s1 fun _ => rfl
theorem g224_3 (c : rz_ar h a 0) (hi : rz_ix x (rz_ln h a)) : rg Z d rx_m224 3 L (.int x :: .ref a :: S) (rz_mk h ι, w) = rg Z d rx_m224 4 L (.int (ι a x.toNatClampNeg) :: S) (rz_mk h ι, w) := rz_iald rfl c hi
theorem g224_4 : rg Z d rx_m224 4 L S (rz_mk h ι, w) = rg Z d rx_m224 5 L (.int (-1) :: S) (rz_mk h ι, w) := rz_s1 fun _ => rfl
theorem g224_5 : rg Z d rx_m224 5 L (.int y :: .int x :: S) (rz_mk h ι, w) = if x = y then rg Z d rx_m224 8 L S (rz_mk h ι, w) else rg Z d rx_m224 12 L S (rz_mk h ι, w) := rz_if2 (pc := 5) (t := 12) (off := 7) (cc := .ne) (by decide) rfl
theorem g224_8 : rg Z d rx_m224 8 L S (rz_mk h ι, w) = rg Z d rx_m224 9 L (.int (-1) :: S) (rz_mk h ι, w) := rz_s1 fun _ => rfl
theorem g224_9 : rg Z d rx_m224 9 L S (rz_mk h ι, w) = rg Z d rx_m224 21 L S (rz_mk h ι, w) := rz_s1 fun _ => rfl
theorem g224_12 : rg Z d rx_m224 12 [some (.ref a), l1] S (rz_mk h ι, w) = rg Z d rx_m224 13 [some (.ref a), l1] (.ref a :: S) (rz_mk h ι, w) := rz_s1 fun _ => rfl
theorem g224_13 : rg Z d rx_m224 13 [l0, some (.ref a)] S (rz_mk h ι, w) = rg Z d rx_m224 14 [l0, some (.ref a)] (.ref a :: S) (rz_mk h ι, w) := rz_s1 fun _ => rfl
theorem g224_14 : rg Z d rx_m224 14 [l0, some (.ref a)] S (rz_mk h ι, w) = rg Z d rx_m224 15 [l0, some (.ref a)] (.ref a :: S) (rz_mk h ι, w) := rz_s1 fun _ => rfl
theorem g224_15 : rg Z d rx_m224 15 L S (rz_mk h ι, w) = rg Z d rx_m224 17 L (.int 58 :: S) (rz_mk h ι, w) := rz_s1 fun _ => rfl
theorem g224_17 (c : rz_ar h a 0) (hi : rz_ix x (rz_ln h a)) : rg Z d rx_m224 17 L (.int x :: .ref a :: S) (rz_mk h ι, w) = rg Z d rx_m224 18 L (.int (ι a x.toNatClampNeg) :: S) (rz_mk h ι, w) := rz_iald rfl c hi
theorem g224_18 (c : rz_oc h a 12) : rg Z d rx_m224 18 L (v2 :: v1 :: .ref a :: []) (rz_mk h ι, w) = rz_k true (rz_f Z d 223 [.ref a, v1, v2] (rz_mk h ι, w)) (fun v σ' => rg Z d rx_m224 21 L (v.toList ++ []) σ') := rz_cv (pc := 18) (n := 2) (mi := 223) (S := v2 :: v1 :: .ref a :: []) (rest := []) rfl rfl (Nat.le_of_ble_eq_true rfl) (Nat.le_of_ble_eq_true rfl) c
theorem g224_21 : rg Z d rx_m224 21 L [.int x] (rz_mk h ι, w) = some (.inl (some (.int x)), (rz_mk h ι, w)) := rz_reti rfl rfl rfl
theorem e224 : rz_f Z (d + 1) 224 [.ref t0, .ref t1] σ = rg Z d rx_m224 0 [some (.ref t0), some (.ref t1)] [] σ := rz_f_eq rfl (Nat.le_of_ble_eq_true rfl)
theorem g225_0 : rg Z d rx_m225 0 [some (.ref a), l1, l2] S (rz_mk h ι, w) = rg Z d rx_m225 1 [some (.ref a), l1, l2] (.ref a :: S) (rz_mk h ι, w) := rz_s1 fun _ => rfl
theorem g225_1 : rg Z d rx_m225 1 [l0, some (.int x), l2] S (rz_mk h ι, w) = rg Z d rx_m225 2 [l0, some (.int x), l2] (.int x :: S) (rz_mk h ι, w) := rz_s1 fun _ => rfl
theorem g225_2 (c : rz_ar h a 0) (hi : rz_ix x (rz_ln h a)) : rg Z d rx_m225 2 L (.int x :: .ref a :: S) (rz_mk h ι, w) = rg Z d rx_m225 3 L (.int (ι a x.toNatClampNeg) :: S) (rz_mk h ι, w) := rz_iald rfl c hi
theorem g225_3 : rg Z d rx_m225 3 [l0, l1, some (.int x)] S (rz_mk h ι, w) = rg Z d rx_m225 4 [l0, l1, some (.int x)] (.int x :: S) (rz_mk h ι, w) := rz_s1 fun _ => rfl
theorem g225_4 : rg Z d rx_m225 4 L (.int y :: .int x :: S) (rz_mk h ι, w) = if x = y then rg Z d rx_m225 7 L S (rz_mk h ι, w) else rg Z d rx_m225 9 L S (rz_mk h ι, w) := rz_if2 (pc := 4) (t := 9) (off := 5) (cc := .ne) (by decide) rfl
theorem g225_7 : rg Z d rx_m225 7 L S (rz_mk h ι, w) = rg Z d rx_m225 8 L (.int 0 :: S) (rz_mk h ι, w) := rz_s1 fun _ => rfl
theorem g225_8 (c : narrow .boolean (.int x) = .int x) : rg Z d rx_m225 8 L [.int x] (rz_mk h ι, w) = some (.inl (some (.int x)), (rz_mk h ι, w)) := rz_reti rfl rfl c
theorem g225_9 : rg Z d rx_m225 9 [some (.ref a), l1, l2] S (rz_mk h ι, w) = rg Z d rx_m225 10 [some (.ref a), l1, l2] (.ref a :: S) (rz_mk h ι, w) := rz_s1 fun _ => rfl
theorem g225_10 : rg Z d rx_m225 10 [l0, some (.int x), l2] S (rz_mk h ι, w) = rg Z d rx_m225 11 [l0, some (.int x), l2] (.int x :: S) (rz_mk h ι, w) := rz_s1 fun _ => rfl
theorem g225_11 : rg Z d rx_m225 11 [l0, l1, some (.int x)] S (rz_mk h ι, w) = rg Z d rx_m225 12 [l0, l1, some (.int x)] (.int x :: S) (rz_mk h ι, w) := rz_s1 fun _ => rfl
theorem g225_12 (c : rz_ar h a 0) (hi : rz_ix x (rz_ln h a)) (hz : Z.2.1 ≤ a) : rg Z d rx_m225 12 L (.int y :: .int x :: .ref a :: S) (rz_mk h ι, w) = rg Z d rx_m225 13 L S (rz_mk h (rz_up ι a x.toNatClampNeg y), w) := rz_iast rfl c hi hz
theorem g225_13 : rg Z d rx_m225 13 L S (rz_mk h ι, w) = rg Z d rx_m225 14 L (.int 1 :: S) (rz_mk h ι, w) := rz_s1 fun _ => rfl
theorem g225_14 (c : narrow .boolean (.int x) = .int x) : rg Z d rx_m225 14 L [.int x] (rz_mk h ι, w) = some (.inl (some (.int x)), (rz_mk h ι, w)) := rz_reti rfl rfl c
theorem e225 : rz_f Z (d + 1) 225 [.ref t0, .int s1, .int s2] σ = rg Z d rx_m225 0 [some (.ref t0), some (.int s1), some (.int s2)] [] σ := rz_f_eq rfl (Nat.le_of_ble_eq_true rfl)
theorem g226_0 : rg Z d rx_m226 0 [l0, some (.int x), l2] S (rz_mk h ι, w) = rg Z d rx_m226 1 [l0, some (.int x), l2] (.int x :: S) (rz_mk h ι, w) := rz_s1 fun _ => rfl
theorem g226_1 : rg Z d rx_m226 1 [some (.ref a), l1, l2] S (rz_mk h ι, w) = rg Z d rx_m226 2 [some (.ref a), l1, l2] (.ref a :: S) (rz_mk h ι, w) := rz_s1 fun _ => rfl
theorem g226_2 : rg Z d rx_m226 2 L S (rz_mk h ι, w) = rg Z d rx_m226 4 L (.int 57 :: S) (rz_mk h ι, w) := rz_s1 fun _ => rfl
theorem g226_4 (c : rz_ar h a 0) (hi : rz_ix x (rz_ln h a)) : rg Z d rx_m226 4 L (.int x :: .ref a :: S) (rz_mk h ι, w) = rg Z d rx_m226 5 L (.int (ι a x.toNatClampNeg) :: S) (rz_mk h ι, w) := rz_iald rfl c hi
theorem g226_5 : rg Z d rx_m226 5 L (.int y :: .int x :: S) (rz_mk h ι, w) = if x < y then rg Z d rx_m226 8 L S (rz_mk h ι, w) else rg Z d rx_m226 16 L S (rz_mk h ι, w) := rz_if2 (pc := 5) (t := 16) (off := 11) (cc := .ge) (by decide) rfl
theorem g226_8 : rg Z d rx_m226 8 [some (.ref a), l1, l2] S (rz_mk h ι, w) = rg Z d rx_m226 9 [some (.ref a), l1, l2] (.ref a :: S) (rz_mk h ι, w) := rz_s1 fun _ => rfl
theorem g226_9 : rg Z d rx_m226 9 [l0, some (.int x), l2] S (rz_mk h ι, w) = rg Z d rx_m226 10 [l0, some (.int x), l2] (.int x :: S) (rz_mk h ι, w) := rz_s1 fun _ => rfl
theorem g226_10 : rg Z d rx_m226 10 L (v2 :: v1 :: []) (rz_mk h ι, w) = rz_k true (rz_f Z d 219 [v1, v2] (rz_mk h ι, w)) (fun v σ' => rg Z d rx_m226 13 L (v.toList ++ []) σ') := rz_cs (pc := 10) (n := 2) (mi := 219) (S := v2 :: v1 :: []) (rest := []) rfl rfl (Nat.le_of_ble_eq_true rfl) (Nat.le_of_ble_eq_true rfl)
theorem g226_13 : rg Z d rx_m226 13 L (.int x :: S) (rz_mk h ι, w) = if x = 0 then rg Z d rx_m226 16 L S (rz_mk h ι, w) else rg Z d rx_m226 18 L S (rz_mk h ι, w) := rz_if1 (pc := 13) (t := 18) (off := 5) (cc := .ne) (by decide) rfl
theorem g226_16 : rg Z d rx_m226 16 L S (rz_mk h ι, w) = rg Z d rx_m226 17 L (.int 0 :: S) (rz_mk h ι, w) := rz_s1 fun _ => rfl
theorem g226_17 (c : narrow .boolean (.int x) = .int x) : rg Z d rx_m226 17 L [.int x] (rz_mk h ι, w) = some (.inl (some (.int x)), (rz_mk h ι, w)) := rz_reti rfl rfl c
theorem g226_18 : rg Z d rx_m226 18 L S (rz_mk h ι, w) = rg Z d rx_m226 19 L (.int 0 :: S) (rz_mk h ι, w) := rz_s1 fun _ => rfl
theorem g226_19 : rg Z d rx_m226 19 [l0, some (.int z), l2] (.int x :: S) (rz_mk h ι, w) = rg Z d rx_m226 20 [l0, some (.int z), some (.int x)] S (rz_mk h ι, w) := rz_s1 fun _ => rfl
theorem g226_20 : rg Z d rx_m226 20 [l0, l1, some (.int x)] S (rz_mk h ι, w) = rg Z d rx_m226 21 [l0, l1, some (.int x)] (.int x :: S) (rz_mk h ι, w) := rz_s1 fun _ => rfl
theorem g226_21 : rg Z d rx_m226 21 L S (rz_mk h ι, w) = rg Z d rx_m226 22 L (.int 3 :: S) (rz_mk h ι, w) := rz_s1 fun _ => rfl
theorem g226_22 : rg Z d rx_m226 22 L (.int y :: .int x :: S) (rz_mk h ι, w) = if x < y then rg Z d rx_m226 25 L S (rz_mk h ι, w) else rg Z d rx_m226 47 L S (rz_mk h ι, w) := rz_if2 (pc := 22) (t := 47) (off := 25) (cc := .ge) (by decide) rfl
theorem g226_25 : rg Z d rx_m226 25 [some (.ref a), l1, l2] S (rz_mk h ι, w) = rg Z d rx_m226 26 [some (.ref a), l1, l2] (.ref a :: S) (rz_mk h ι, w) := rz_s1 fun _ => rfl
theorem g226_26 : rg Z d rx_m226 26 L S (rz_mk h ι, w) = rg Z d rx_m226 28 L (.int 24 :: S) (rz_mk h ι, w) := rz_s1 fun _ => rfl
theorem g226_28 : rg Z d rx_m226 28 L S (rz_mk h ι, w) = rg Z d rx_m226 29 L (.int 3 :: S) (rz_mk h ι, w) := rz_s1 fun _ => rfl
theorem g226_29 : rg Z d rx_m226 29 [l0, some (.int x), l2] S (rz_mk h ι, w) = rg Z d rx_m226 30 [l0, some (.int x), l2] (.int x :: S) (rz_mk h ι, w) := rz_s1 fun _ => rfl
theorem g226_30 : rg Z d rx_m226 30 L (.int y :: .int x :: S) (rz_mk h ι, w) = rg Z d rx_m226 31 L (.int (x * y) :: S) (rz_mk h ι, w) := rz_s1 fun _ => rfl
theorem g226_31 : rg Z d rx_m226 31 L (.int y :: .int x :: S) (rz_mk h ι, w) = rg Z d rx_m226 32 L (.int (x + y) :: S) (rz_mk h ι, w) := rz_s1 fun _ => rfl
theorem g226_32 : rg Z d rx_m226 32 [l0, l1, some (.int x)] S (rz_mk h ι, w) = rg Z d rx_m226 33 [l0, l1, some (.int x)] (.int x :: S) (rz_mk h ι, w) := rz_s1 fun _ => rfl
theorem g226_33 : rg Z d rx_m226 33 L (.int y :: .int x :: S) (rz_mk h ι, w) = rg Z d rx_m226 34 L (.int (x + y) :: S) (rz_mk h ι, w) := rz_s1 fun _ => rfl
theorem g226_34 : rg Z d rx_m226 34 [some (.ref a), l1, l2] S (rz_mk h ι, w) = rg Z d rx_m226 35 [some (.ref a), l1, l2] (.ref a :: S) (rz_mk h ι, w) := rz_s1 fun _ => rfl
theorem g226_35 : rg Z d rx_m226 35 [l0, some (.int x), l2] S (rz_mk h ι, w) = rg Z d rx_m226 36 [l0, some (.int x), l2] (.int x :: S) (rz_mk h ι, w) := rz_s1 fun _ => rfl
theorem g226_36 : rg Z d rx_m226 36 [l0, l1, some (.int x)] S (rz_mk h ι, w) = rg Z d rx_m226 37 [l0, l1, some (.int x)] (.int x :: S) (rz_mk h ι, w) := rz_s1 fun _ => rfl
theorem g226_37 : rg Z d rx_m226 37 L (v3 :: v2 :: v1 :: [.int s0, .ref t1]) (rz_mk h ι, w) = rz_k true (rz_f Z d 218 [v1, v2, v3] (rz_mk h ι, w)) (fun v σ' => rg Z d rx_m226 40 L (v.toList ++ [.int s0, .ref t1]) σ') := rz_cs (pc := 37) (n := 3) (mi := 218) (S := v3 :: v2 :: v1 :: [.int s0, .ref t1]) (rest := [.int s0, .ref t1]) rfl rfl (Nat.le_of_ble_eq_true rfl) (Nat.le_of_ble_eq_true rfl)
theorem g226_40 (c : rz_ar h a 0) (hi : rz_ix x (rz_ln h a)) (hz : Z.2.1 ≤ a) : rg Z d rx_m226 40 L (.int y :: .int x :: .ref a :: S) (rz_mk h ι, w) = rg Z d rx_m226 41 L S (rz_mk h (rz_up ι a x.toNatClampNeg y), w) := rz_iast rfl c hi hz
theorem g226_41 : rg Z d rx_m226 41 [l0, some (.int z), some (.int x)] S (rz_mk h ι, w) = rg Z d rx_m226 44 [l0, some (.int z), some (.int (x + 1))] S (rz_mk h ι, w) := rz_s1 fun _ => rfl
theorem g226_44 : rg Z d rx_m226 44 L S (rz_mk h ι, w) = rg Z d rx_m226 20 L S (rz_mk h ι, w) := rz_s1 fun _ => rfl
theorem g226_47 : rg Z d rx_m226 47 L S (rz_mk h ι, w) = rg Z d rx_m226 48 L (.int 1 :: S) (rz_mk h ι, w) := rz_s1 fun _ => rfl
theorem g226_48 (c : narrow .boolean (.int x) = .int x) : rg Z d rx_m226 48 L [.int x] (rz_mk h ι, w) = some (.inl (some (.int x)), (rz_mk h ι, w)) := rz_reti rfl rfl c
theorem e226 : rz_f Z (d + 1) 226 [.ref t0, .int s1] σ = rg Z d rx_m226 0 [some (.ref t0), some (.int s1), none] [] σ := rz_f_eq rfl (Nat.le_of_ble_eq_true rfl)
theorem g227_0 : rg Z d rx_m227 0 [l0, some (.int x), l2, l3, l4, l5] S (rz_mk h ι, w) = rg Z d rx_m227 1 [l0, some (.int x), l2, l3, l4, l5] (.int x :: S) (rz_mk h ι, w) := rz_s1 fun _ => rfl
theorem g227_1 : rg Z d rx_m227 1 [l0, l1, some (.int x), l3, l4, l5] S (rz_mk h ι, w) = rg Z d rx_m227 2 [l0, l1, some (.int x), l3, l4, l5] (.int x :: S) (rz_mk h ι, w) := rz_s1 fun _ => rfl
theorem g227_2 : rg Z d rx_m227 2 L (.int y :: .int x :: S) (rz_mk h ι, w) = if x = y then rg Z d rx_m227 30 L S (rz_mk h ι, w) else rg Z d rx_m227 5 L S (rz_mk h ι, w) := rz_if2 (pc := 2) (t := 30) (off := 28) (cc := .eq) (by decide) rfl
theorem g227_5 : rg Z d rx_m227 5 [some (.ref a), l1, l2, l3, l4, l5] S (rz_mk h ι, w) = rg Z d rx_m227 6 [some (.ref a), l1, l2, l3, l4, l5] (.ref a :: S) (rz_mk h ι, w) := rz_s1 fun _ => rfl
theorem g227_6 : rg Z d rx_m227 6 [l0, some (.int x), l2, l3, l4, l5] S (rz_mk h ι, w) = rg Z d rx_m227 7 [l0, some (.int x), l2, l3, l4, l5] (.int x :: S) (rz_mk h ι, w) := rz_s1 fun _ => rfl
theorem g227_7 : rg Z d rx_m227 7 L (v2 :: v1 :: []) (rz_mk h ι, w) = rz_k true (rz_f Z d 222 [v1, v2] (rz_mk h ι, w)) (fun v σ' => rg Z d rx_m227 10 L (v.toList ++ []) σ') := rz_cs (pc := 7) (n := 2) (mi := 222) (S := v2 :: v1 :: []) (rest := []) rfl rfl (Nat.le_of_ble_eq_true rfl) (Nat.le_of_ble_eq_true rfl)
theorem g227_10 : rg Z d rx_m227 10 L (.int x :: S) (rz_mk h ι, w) = if x = 0 then rg Z d rx_m227 30 L S (rz_mk h ι, w) else rg Z d rx_m227 13 L S (rz_mk h ι, w) := rz_if1 (pc := 10) (t := 30) (off := 20) (cc := .eq) (by decide) rfl
theorem g227_13 : rg Z d rx_m227 13 [some (.ref a), l1, l2, l3, l4, l5] S (rz_mk h ι, w) = rg Z d rx_m227 14 [some (.ref a), l1, l2, l3, l4, l5] (.ref a :: S) (rz_mk h ι, w) := rz_s1 fun _ => rfl
theorem g227_14 : rg Z d rx_m227 14 [l0, l1, some (.int x), l3, l4, l5] S (rz_mk h ι, w) = rg Z d rx_m227 15 [l0, l1, some (.int x), l3, l4, l5] (.int x :: S) (rz_mk h ι, w) := rz_s1 fun _ => rfl
theorem g227_15 : rg Z d rx_m227 15 L (v2 :: v1 :: []) (rz_mk h ι, w) = rz_k true (rz_f Z d 222 [v1, v2] (rz_mk h ι, w)) (fun v σ' => rg Z d rx_m227 18 L (v.toList ++ []) σ') := rz_cs (pc := 15) (n := 2) (mi := 222) (S := v2 :: v1 :: []) (rest := []) rfl rfl (Nat.le_of_ble_eq_true rfl) (Nat.le_of_ble_eq_true rfl)
theorem g227_18 : rg Z d rx_m227 18 L (.int x :: S) (rz_mk h ι, w) = if x = 0 then rg Z d rx_m227 30 L S (rz_mk h ι, w) else rg Z d rx_m227 21 L S (rz_mk h ι, w) := rz_if1 (pc := 18) (t := 30) (off := 12) (cc := .eq) (by decide) rfl
theorem g227_21 : rg Z d rx_m227 21 [some (.ref a), l1, l2, l3, l4, l5] S (rz_mk h ι, w) = rg Z d rx_m227 22 [some (.ref a), l1, l2, l3, l4, l5] (.ref a :: S) (rz_mk h ι, w) := rz_s1 fun _ => rfl
theorem g227_22 : rg Z d rx_m227 22 L S (rz_mk h ι, w) = rg Z d rx_m227 24 L (.int 57 :: S) (rz_mk h ι, w) := rz_s1 fun _ => rfl
theorem g227_24 (c : rz_ar h a 0) (hi : rz_ix x (rz_ln h a)) : rg Z d rx_m227 24 L (.int x :: .ref a :: S) (rz_mk h ι, w) = rg Z d rx_m227 25 L (.int (ι a x.toNatClampNeg) :: S) (rz_mk h ι, w) := rz_iald rfl c hi
theorem g227_25 : rg Z d rx_m227 25 L S (rz_mk h ι, w) = rg Z d rx_m227 27 L (.int 8 :: S) (rz_mk h ι, w) := rz_s1 fun _ => rfl
theorem g227_27 : rg Z d rx_m227 27 L (.int y :: .int x :: S) (rz_mk h ι, w) = if x = y then rg Z d rx_m227 30 L S (rz_mk h ι, w) else rg Z d rx_m227 32 L S (rz_mk h ι, w) := rz_if2 (pc := 27) (t := 32) (off := 5) (cc := .ne) (by decide) rfl
theorem g227_30 : rg Z d rx_m227 30 L S (rz_mk h ι, w) = rg Z d rx_m227 31 L (.int 0 :: S) (rz_mk h ι, w) := rz_s1 fun _ => rfl
theorem g227_31 (c : narrow .boolean (.int x) = .int x) : rg Z d rx_m227 31 L [.int x] (rz_mk h ι, w) = some (.inl (some (.int x)), (rz_mk h ι, w)) := rz_reti rfl rfl c
theorem g227_32 : rg Z d rx_m227 32 [some (.ref a), l1, l2, l3, l4, l5] S (rz_mk h ι, w) = rg Z d rx_m227 33 [some (.ref a), l1, l2, l3, l4, l5] (.ref a :: S) (rz_mk h ι, w) := rz_s1 fun _ => rfl
theorem g227_33 : rg Z d rx_m227 33 L S (rz_mk h ι, w) = rg Z d rx_m227 35 L (.int 57 :: S) (rz_mk h ι, w) := rz_s1 fun _ => rfl
theorem g227_35 (c : rz_ar h a 0) (hi : rz_ix x (rz_ln h a)) : rg Z d rx_m227 35 L (.int x :: .ref a :: S) (rz_mk h ι, w) = rg Z d rx_m227 36 L (.int (ι a x.toNatClampNeg) :: S) (rz_mk h ι, w) := rz_iald rfl c hi
theorem g227_36 : rg Z d rx_m227 36 [l0, l1, some (.int z), l3, l4, l5] (.int x :: S) (rz_mk h ι, w) = rg Z d rx_m227 37 [l0, l1, some (.int z), some (.int x), l4, l5] S (rz_mk h ι, w) := rz_s1 fun _ => rfl
theorem g227_37 : rg Z d rx_m227 37 L S (rz_mk h ι, w) = rg Z d rx_m227 38 L (.int 0 :: S) (rz_mk h ι, w) := rz_s1 fun _ => rfl
theorem g227_38 : rg Z d rx_m227 38 [l0, l1, l2, some (.int z), l4, l5] (.int x :: S) (rz_mk h ι, w) = rg Z d rx_m227 40 [l0, l1, l2, some (.int z), some (.int x), l5] S (rz_mk h ι, w) := rz_s1 fun _ => rfl
theorem g227_40 : rg Z d rx_m227 40 [l0, l1, l2, l3, some (.int x), l5] S (rz_mk h ι, w) = rg Z d rx_m227 42 [l0, l1, l2, l3, some (.int x), l5] (.int x :: S) (rz_mk h ι, w) := rz_s1 fun _ => rfl
theorem g227_42 : rg Z d rx_m227 42 L S (rz_mk h ι, w) = rg Z d rx_m227 43 L (.int 3 :: S) (rz_mk h ι, w) := rz_s1 fun _ => rfl
theorem g227_43 : rg Z d rx_m227 43 L (.int y :: .int x :: S) (rz_mk h ι, w) = if x < y then rg Z d rx_m227 46 L S (rz_mk h ι, w) else rg Z d rx_m227 96 L S (rz_mk h ι, w) := rz_if2 (pc := 43) (t := 96) (off := 53) (cc := .ge) (by decide) rfl
theorem g227_46 : rg Z d rx_m227 46 [some (.ref a), l1, l2, l3, l4, l5] S (rz_mk h ι, w) = rg Z d rx_m227 47 [some (.ref a), l1, l2, l3, l4, l5] (.ref a :: S) (rz_mk h ι, w) := rz_s1 fun _ => rfl
theorem g227_47 : rg Z d rx_m227 47 [l0, some (.int x), l2, l3, l4, l5] S (rz_mk h ι, w) = rg Z d rx_m227 48 [l0, some (.int x), l2, l3, l4, l5] (.int x :: S) (rz_mk h ι, w) := rz_s1 fun _ => rfl
theorem g227_48 : rg Z d rx_m227 48 [l0, l1, l2, l3, some (.int x), l5] S (rz_mk h ι, w) = rg Z d rx_m227 50 [l0, l1, l2, l3, some (.int x), l5] (.int x :: S) (rz_mk h ι, w) := rz_s1 fun _ => rfl
theorem g227_50 : rg Z d rx_m227 50 L (v3 :: v2 :: v1 :: []) (rz_mk h ι, w) = rz_k true (rz_f Z d 218 [v1, v2, v3] (rz_mk h ι, w)) (fun v σ' => rg Z d rx_m227 53 L (v.toList ++ []) σ') := rz_cs (pc := 50) (n := 3) (mi := 218) (S := v3 :: v2 :: v1 :: []) (rest := []) rfl rfl (Nat.le_of_ble_eq_true rfl) (Nat.le_of_ble_eq_true rfl)
theorem g227_53 : rg Z d rx_m227 53 [some (.ref a), l1, l2, l3, l4, l5] S (rz_mk h ι, w) = rg Z d rx_m227 54 [some (.ref a), l1, l2, l3, l4, l5] (.ref a :: S) (rz_mk h ι, w) := rz_s1 fun _ => rfl
theorem g227_54 : rg Z d rx_m227 54 [l0, l1, some (.int x), l3, l4, l5] S (rz_mk h ι, w) = rg Z d rx_m227 55 [l0, l1, some (.int x), l3, l4, l5] (.int x :: S) (rz_mk h ι, w) := rz_s1 fun _ => rfl
theorem g227_55 : rg Z d rx_m227 55 [l0, l1, l2, l3, some (.int x), l5] S (rz_mk h ι, w) = rg Z d rx_m227 57 [l0, l1, l2, l3, some (.int x), l5] (.int x :: S) (rz_mk h ι, w) := rz_s1 fun _ => rfl
theorem g227_57 : rg Z d rx_m227 57 L (v3 :: v2 :: v1 :: [.int s0]) (rz_mk h ι, w) = rz_k true (rz_f Z d 218 [v1, v2, v3] (rz_mk h ι, w)) (fun v σ' => rg Z d rx_m227 60 L (v.toList ++ [.int s0]) σ') := rz_cs (pc := 57) (n := 3) (mi := 218) (S := v3 :: v2 :: v1 :: [.int s0]) (rest := [.int s0]) rfl rfl (Nat.le_of_ble_eq_true rfl) (Nat.le_of_ble_eq_true rfl)
theorem g227_60 : rg Z d rx_m227 60 L (.int y :: .int x :: S) (rz_mk h ι, w) = rg Z d rx_m227 61 L (.int (x + y) :: S) (rz_mk h ι, w) := rz_s1 fun _ => rfl
theorem g227_61 : rg Z d rx_m227 61 L S (rz_mk h ι, w) = rg Z d rx_m227 62 L (.int 2 :: S) (rz_mk h ι, w) := rz_s1 fun _ => rfl
theorem g227_62 : rg Z d rx_m227 62 L (.int 2 :: .int x :: S) (rz_mk h ι, w) = rg Z d rx_m227 63 L (.int (x / 2) :: S) (rz_mk h ι, w) := rz_div rfl (by decide)
theorem g227_63 : rg Z d rx_m227 63 [l0, l1, l2, l3, some (.int z), l5] (.int x :: S) (rz_mk h ι, w) = rg Z d rx_m227 65 [l0, l1, l2, l3, some (.int z), some (.int x)] S (rz_mk h ι, w) := rz_s1 fun _ => rfl
theorem g227_65 : rg Z d rx_m227 65 [some (.ref a), l1, l2, l3, l4, l5] S (rz_mk h ι, w) = rg Z d rx_m227 66 [some (.ref a), l1, l2, l3, l4, l5] (.ref a :: S) (rz_mk h ι, w) := rz_s1 fun _ => rfl
theorem g227_66 : rg Z d rx_m227 66 L S (rz_mk h ι, w) = rg Z d rx_m227 67 L (.int 0 :: S) (rz_mk h ι, w) := rz_s1 fun _ => rfl
theorem g227_67 : rg Z d rx_m227 67 L S (rz_mk h ι, w) = rg Z d rx_m227 68 L (.int 3 :: S) (rz_mk h ι, w) := rz_s1 fun _ => rfl
theorem g227_68 : rg Z d rx_m227 68 [l0, l1, l2, some (.int x), l4, l5] S (rz_mk h ι, w) = rg Z d rx_m227 69 [l0, l1, l2, some (.int x), l4, l5] (.int x :: S) (rz_mk h ι, w) := rz_s1 fun _ => rfl
theorem g227_69 : rg Z d rx_m227 69 L (.int y :: .int x :: S) (rz_mk h ι, w) = rg Z d rx_m227 70 L (.int (x * y) :: S) (rz_mk h ι, w) := rz_s1 fun _ => rfl
theorem g227_70 : rg Z d rx_m227 70 L (.int y :: .int x :: S) (rz_mk h ι, w) = rg Z d rx_m227 71 L (.int (x + y) :: S) (rz_mk h ι, w) := rz_s1 fun _ => rfl
theorem g227_71 : rg Z d rx_m227 71 [l0, l1, l2, l3, some (.int x), l5] S (rz_mk h ι, w) = rg Z d rx_m227 73 [l0, l1, l2, l3, some (.int x), l5] (.int x :: S) (rz_mk h ι, w) := rz_s1 fun _ => rfl
theorem g227_73 : rg Z d rx_m227 73 L (.int y :: .int x :: S) (rz_mk h ι, w) = rg Z d rx_m227 74 L (.int (x + y) :: S) (rz_mk h ι, w) := rz_s1 fun _ => rfl
theorem g227_74 : rg Z d rx_m227 74 [l0, l1, l2, l3, l4, some (.int x)] S (rz_mk h ι, w) = rg Z d rx_m227 76 [l0, l1, l2, l3, l4, some (.int x)] (.int x :: S) (rz_mk h ι, w) := rz_s1 fun _ => rfl
theorem g227_76 (c : rz_ar h a 0) (hi : rz_ix x (rz_ln h a)) (hz : Z.2.1 ≤ a) : rg Z d rx_m227 76 L (.int y :: .int x :: .ref a :: S) (rz_mk h ι, w) = rg Z d rx_m227 77 L S (rz_mk h (rz_up ι a x.toNatClampNeg y), w) := rz_iast rfl c hi hz
theorem g227_77 : rg Z d rx_m227 77 [some (.ref a), l1, l2, l3, l4, l5] S (rz_mk h ι, w) = rg Z d rx_m227 78 [some (.ref a), l1, l2, l3, l4, l5] (.ref a :: S) (rz_mk h ι, w) := rz_s1 fun _ => rfl
theorem g227_78 : rg Z d rx_m227 78 L S (rz_mk h ι, w) = rg Z d rx_m227 80 L (.int 24 :: S) (rz_mk h ι, w) := rz_s1 fun _ => rfl
theorem g227_80 : rg Z d rx_m227 80 L S (rz_mk h ι, w) = rg Z d rx_m227 81 L (.int 3 :: S) (rz_mk h ι, w) := rz_s1 fun _ => rfl
theorem g227_81 : rg Z d rx_m227 81 [l0, l1, l2, some (.int x), l4, l5] S (rz_mk h ι, w) = rg Z d rx_m227 82 [l0, l1, l2, some (.int x), l4, l5] (.int x :: S) (rz_mk h ι, w) := rz_s1 fun _ => rfl
theorem g227_82 : rg Z d rx_m227 82 L (.int y :: .int x :: S) (rz_mk h ι, w) = rg Z d rx_m227 83 L (.int (x * y) :: S) (rz_mk h ι, w) := rz_s1 fun _ => rfl
theorem g227_83 : rg Z d rx_m227 83 L (.int y :: .int x :: S) (rz_mk h ι, w) = rg Z d rx_m227 84 L (.int (x + y) :: S) (rz_mk h ι, w) := rz_s1 fun _ => rfl
theorem g227_84 : rg Z d rx_m227 84 [l0, l1, l2, l3, some (.int x), l5] S (rz_mk h ι, w) = rg Z d rx_m227 86 [l0, l1, l2, l3, some (.int x), l5] (.int x :: S) (rz_mk h ι, w) := rz_s1 fun _ => rfl
theorem g227_86 : rg Z d rx_m227 86 L (.int y :: .int x :: S) (rz_mk h ι, w) = rg Z d rx_m227 87 L (.int (x + y) :: S) (rz_mk h ι, w) := rz_s1 fun _ => rfl
theorem g227_87 : rg Z d rx_m227 87 [l0, l1, l2, l3, l4, some (.int x)] S (rz_mk h ι, w) = rg Z d rx_m227 89 [l0, l1, l2, l3, l4, some (.int x)] (.int x :: S) (rz_mk h ι, w) := rz_s1 fun _ => rfl
theorem g227_89 (c : rz_ar h a 0) (hi : rz_ix x (rz_ln h a)) (hz : Z.2.1 ≤ a) : rg Z d rx_m227 89 L (.int y :: .int x :: .ref a :: S) (rz_mk h ι, w) = rg Z d rx_m227 90 L S (rz_mk h (rz_up ι a x.toNatClampNeg y), w) := rz_iast rfl c hi hz
theorem g227_90 : rg Z d rx_m227 90 [l0, l1, l2, some (.int z), some (.int x), l5] S (rz_mk h ι, w) = rg Z d rx_m227 93 [l0, l1, l2, some (.int z), some (.int (x + 1)), l5] S (rz_mk h ι, w) := rz_s1 fun _ => rfl
theorem g227_93 : rg Z d rx_m227 93 L S (rz_mk h ι, w) = rg Z d rx_m227 40 L S (rz_mk h ι, w) := rz_s1 fun _ => rfl
theorem g227_96 : rg Z d rx_m227 96 [some (.ref a), l1, l2, l3, l4, l5] S (rz_mk h ι, w) = rg Z d rx_m227 97 [some (.ref a), l1, l2, l3, l4, l5] (.ref a :: S) (rz_mk h ι, w) := rz_s1 fun _ => rfl
theorem g227_97 : rg Z d rx_m227 97 L S (rz_mk h ι, w) = rg Z d rx_m227 99 L (.int 48 :: S) (rz_mk h ι, w) := rz_s1 fun _ => rfl
theorem g227_99 : rg Z d rx_m227 99 [l0, l1, l2, some (.int x), l4, l5] S (rz_mk h ι, w) = rg Z d rx_m227 100 [l0, l1, l2, some (.int x), l4, l5] (.int x :: S) (rz_mk h ι, w) := rz_s1 fun _ => rfl
theorem g227_100 : rg Z d rx_m227 100 L (.int y :: .int x :: S) (rz_mk h ι, w) = rg Z d rx_m227 101 L (.int (x + y) :: S) (rz_mk h ι, w) := rz_s1 fun _ => rfl
theorem g227_101 : rg Z d rx_m227 101 L S (rz_mk h ι, w) = rg Z d rx_m227 102 L (.int 0 :: S) (rz_mk h ι, w) := rz_s1 fun _ => rfl
theorem g227_102 (c : rz_ar h a 0) (hi : rz_ix x (rz_ln h a)) (hz : Z.2.1 ≤ a) : rg Z d rx_m227 102 L (.int y :: .int x :: .ref a :: S) (rz_mk h ι, w) = rg Z d rx_m227 103 L S (rz_mk h (rz_up ι a x.toNatClampNeg y), w) := rz_iast rfl c hi hz
theorem g227_103 : rg Z d rx_m227 103 [some (.ref a), l1, l2, l3, l4, l5] S (rz_mk h ι, w) = rg Z d rx_m227 104 [some (.ref a), l1, l2, l3, l4, l5] (.ref a :: S) (rz_mk h ι, w) := rz_s1 fun _ => rfl
theorem g227_104 : rg Z d rx_m227 104 L S (rz_mk h ι, w) = rg Z d rx_m227 106 L (.int 56 :: S) (rz_mk h ι, w) := rz_s1 fun _ => rfl
theorem g227_106 : rg Z d rx_m227 106 L (.int x :: .ref b :: S) (rz_mk h ι, w) = rg Z d rx_m227 107 L (.int x :: .ref b :: .int x :: .ref b :: S) (rz_mk h ι, w) := rz_s1 fun _ => rfl
theorem g227_107 (c : rz_ar h a 0) (hi : rz_ix x (rz_ln h a)) : rg Z d rx_m227 107 L (.int x :: .ref a :: S) (rz_mk h ι, w) = rg Z d rx_m227 108 L (.int (ι a x.toNatClampNeg) :: S) (rz_mk h ι, w) := rz_iald rfl c hi
theorem g227_108 : rg Z d rx_m227 108 L S (rz_mk h ι, w) = rg Z d rx_m227 109 L (.int 1 :: S) (rz_mk h ι, w) := rz_s1 fun _ => rfl
theorem g227_109 : rg Z d rx_m227 109 [l0, l1, l2, some (.int x), l4, l5] S (rz_mk h ι, w) = rg Z d rx_m227 110 [l0, l1, l2, some (.int x), l4, l5] (.int x :: S) (rz_mk h ι, w) := rz_s1 fun _ => rfl
theorem g227_110 : rg Z d rx_m227 110 L (.int y :: .int x :: S) (rz_mk h ι, w) = rg Z d rx_m227 111 L (.int (x <<< (y &&& 31)) :: S) (rz_mk h ι, w) := rz_s1 fun _ => rfl
theorem g227_111 : rg Z d rx_m227 111 L (.int y :: .int x :: S) (rz_mk h ι, w) = rg Z d rx_m227 112 L (.int (x ||| y) :: S) (rz_mk h ι, w) := rz_s1 fun _ => rfl
theorem g227_112 (c : rz_ar h a 0) (hi : rz_ix x (rz_ln h a)) (hz : Z.2.1 ≤ a) : rg Z d rx_m227 112 L (.int y :: .int x :: .ref a :: S) (rz_mk h ι, w) = rg Z d rx_m227 113 L S (rz_mk h (rz_up ι a x.toNatClampNeg y), w) := rz_iast rfl c hi hz
theorem g227_113 : rg Z d rx_m227 113 [some (.ref a), l1, l2, l3, l4, l5] S (rz_mk h ι, w) = rg Z d rx_m227 114 [some (.ref a), l1, l2, l3, l4, l5] (.ref a :: S) (rz_mk h ι, w) := rz_s1 fun _ => rfl
theorem g227_114 : rg Z d rx_m227 114 L S (rz_mk h ι, w) = rg Z d rx_m227 116 L (.int 57 :: S) (rz_mk h ι, w) := rz_s1 fun _ => rfl
theorem g227_116 : rg Z d rx_m227 116 L (.int x :: .ref b :: S) (rz_mk h ι, w) = rg Z d rx_m227 117 L (.int x :: .ref b :: .int x :: .ref b :: S) (rz_mk h ι, w) := rz_s1 fun _ => rfl
theorem g227_117 (c : rz_ar h a 0) (hi : rz_ix x (rz_ln h a)) : rg Z d rx_m227 117 L (.int x :: .ref a :: S) (rz_mk h ι, w) = rg Z d rx_m227 118 L (.int (ι a x.toNatClampNeg) :: S) (rz_mk h ι, w) := rz_iald rfl c hi
theorem g227_118 : rg Z d rx_m227 118 L S (rz_mk h ι, w) = rg Z d rx_m227 119 L (.int 1 :: S) (rz_mk h ι, w) := rz_s1 fun _ => rfl
theorem g227_119 : rg Z d rx_m227 119 L (.int y :: .int x :: S) (rz_mk h ι, w) = rg Z d rx_m227 120 L (.int (x + y) :: S) (rz_mk h ι, w) := rz_s1 fun _ => rfl
theorem g227_120 (c : rz_ar h a 0) (hi : rz_ix x (rz_ln h a)) (hz : Z.2.1 ≤ a) : rg Z d rx_m227 120 L (.int y :: .int x :: .ref a :: S) (rz_mk h ι, w) = rg Z d rx_m227 121 L S (rz_mk h (rz_up ι a x.toNatClampNeg y), w) := rz_iast rfl c hi hz
theorem g227_121 : rg Z d rx_m227 121 L S (rz_mk h ι, w) = rg Z d rx_m227 122 L (.int 1 :: S) (rz_mk h ι, w) := rz_s1 fun _ => rfl
theorem g227_122 (c : narrow .boolean (.int x) = .int x) : rg Z d rx_m227 122 L [.int x] (rz_mk h ι, w) = some (.inl (some (.int x)), (rz_mk h ι, w)) := rz_reti rfl rfl c
theorem e227 : rz_f Z (d + 1) 227 [.ref t0, .int s1, .int s2] σ = rg Z d rx_m227 0 [some (.ref t0), some (.int s1), some (.int s2), none, none, none] [] σ := rz_f_eq rfl (Nat.le_of_ble_eq_true rfl)
theorem g228_0 : rg Z d rx_m228 0 [l0, some (.ref a), l2, l3] S (rz_mk h ι, w) = rg Z d rx_m228 1 [l0, some (.ref a), l2, l3] (.ref a :: S) (rz_mk h ι, w) := rz_s1 fun _ => rfl
theorem g228_1 : rg Z d rx_m228 1 [l0, l1, some (.int x), l3] S (rz_mk h ι, w) = rg Z d rx_m228 2 [l0, l1, some (.int x), l3] (.int x :: S) (rz_mk h ι, w) := rz_s1 fun _ => rfl
theorem g228_2 : rg Z d rx_m228 2 L (v2 :: v1 :: []) (rz_mk h ι, w) = rz_k true (rz_f Z d 222 [v1, v2] (rz_mk h ι, w)) (fun v σ' => rg Z d rx_m228 5 L (v.toList ++ []) σ') := rz_cs (pc := 2) (n := 2) (mi := 222) (S := v2 :: v1 :: []) (rest := []) rfl rfl (Nat.le_of_ble_eq_true rfl) (Nat.le_of_ble_eq_true rfl)
theorem g228_5 : rg Z d rx_m228 5 L (.int x :: S) (rz_mk h ι, w) = if x = 0 then rg Z d rx_m228 8 L S (rz_mk h ι, w) else rg Z d rx_m228 10 L S (rz_mk h ι, w) := rz_if1 (pc := 5) (t := 10) (off := 5) (cc := .ne) (by decide) rfl
theorem g228_8 : rg Z d rx_m228 8 L S (rz_mk h ι, w) = rg Z d rx_m228 9 L (.int 0 :: S) (rz_mk h ι, w) := rz_s1 fun _ => rfl
theorem g228_9 (c : narrow .boolean (.int x) = .int x) : rg Z d rx_m228 9 L [.int x] (rz_mk h ι, w) = some (.inl (some (.int x)), (rz_mk h ι, w)) := rz_reti rfl rfl c
theorem g228_10 : rg Z d rx_m228 10 [l0, some (.ref a), l2, l3] S (rz_mk h ι, w) = rg Z d rx_m228 11 [l0, some (.ref a), l2, l3] (.ref a :: S) (rz_mk h ι, w) := rz_s1 fun _ => rfl
theorem g228_11 : rg Z d rx_m228 11 L S (rz_mk h ι, w) = rg Z d rx_m228 13 L (.int 58 :: S) (rz_mk h ι, w) := rz_s1 fun _ => rfl
theorem g228_13 (c : rz_ar h a 0) (hi : rz_ix x (rz_ln h a)) : rg Z d rx_m228 13 L (.int x :: .ref a :: S) (rz_mk h ι, w) = rg Z d rx_m228 14 L (.int (ι a x.toNatClampNeg) :: S) (rz_mk h ι, w) := rz_iald rfl c hi
theorem g228_14 : rg Z d rx_m228 14 [l0, l1, some (.int x), l3] S (rz_mk h ι, w) = rg Z d rx_m228 15 [l0, l1, some (.int x), l3] (.int x :: S) (rz_mk h ι, w) := rz_s1 fun _ => rfl
theorem g228_15 : rg Z d rx_m228 15 L (.int y :: .int x :: S) (rz_mk h ι, w) = if x = y then rg Z d rx_m228 18 L S (rz_mk h ι, w) else rg Z d rx_m228 26 L S (rz_mk h ι, w) := rz_if2 (pc := 15) (t := 26) (off := 11) (cc := .ne) (by decide) rfl
theorem g228_18 : rg Z d rx_m228 18 [some (.ref a), l1, l2, l3] S (rz_mk h ι, w) = rg Z d rx_m228 19 [some (.ref a), l1, l2, l3] (.ref a :: S) (rz_mk h ι, w) := rz_s1 fun _ => rfl
theorem g228_19 : rg Z d rx_m228 19 [l0, some (.ref a), l2, l3] S (rz_mk h ι, w) = rg Z d rx_m228 20 [l0, some (.ref a), l2, l3] (.ref a :: S) (rz_mk h ι, w) := rz_s1 fun _ => rfl
theorem g228_20 (c : rz_oc h a 12) : rg Z d rx_m228 20 L (v1 :: .ref a :: []) (rz_mk h ι, w) = rz_k true (rz_f Z d 224 [.ref a, v1] (rz_mk h ι, w)) (fun v σ' => rg Z d rx_m228 23 L (v.toList ++ []) σ') := rz_cv (pc := 20) (n := 1) (mi := 224) (S := v1 :: .ref a :: []) (rest := []) rfl rfl (Nat.le_of_ble_eq_true rfl) (Nat.le_of_ble_eq_true rfl) c
theorem g228_23 : rg Z d rx_m228 23 L S (rz_mk h ι, w) = rg Z d rx_m228 27 L S (rz_mk h ι, w) := rz_s1 fun _ => rfl
theorem g228_26 : rg Z d rx_m228 26 L S (rz_mk h ι, w) = rg Z d rx_m228 27 L (.int (-1) :: S) (rz_mk h ι, w) := rz_s1 fun _ => rfl
theorem g228_27 : rg Z d rx_m228 27 [l0, l1, some (.int z), l3] (.int x :: S) (rz_mk h ι, w) = rg Z d rx_m228 28 [l0, l1, some (.int z), some (.int x)] S (rz_mk h ι, w) := rz_s1 fun _ => rfl
theorem g228_28 : rg Z d rx_m228 28 [l0, some (.ref a), l2, l3] S (rz_mk h ι, w) = rg Z d rx_m228 29 [l0, some (.ref a), l2, l3] (.ref a :: S) (rz_mk h ι, w) := rz_s1 fun _ => rfl
theorem g228_29 : rg Z d rx_m228 29 L S (rz_mk h ι, w) = rg Z d rx_m228 31 L (.int 56 :: S) (rz_mk h ι, w) := rz_s1 fun _ => rfl
theorem g228_31 : rg Z d rx_m228 31 L (.int x :: .ref b :: S) (rz_mk h ι, w) = rg Z d rx_m228 32 L (.int x :: .ref b :: .int x :: .ref b :: S) (rz_mk h ι, w) := rz_s1 fun _ => rfl
theorem g228_32 (c : rz_ar h a 0) (hi : rz_ix x (rz_ln h a)) : rg Z d rx_m228 32 L (.int x :: .ref a :: S) (rz_mk h ι, w) = rg Z d rx_m228 33 L (.int (ι a x.toNatClampNeg) :: S) (rz_mk h ι, w) := rz_iald rfl c hi
theorem g228_33 : rg Z d rx_m228 33 L S (rz_mk h ι, w) = rg Z d rx_m228 34 L (.int 1 :: S) (rz_mk h ι, w) := rz_s1 fun _ => rfl
theorem g228_34 : rg Z d rx_m228 34 [l0, l1, some (.int x), l3] S (rz_mk h ι, w) = rg Z d rx_m228 35 [l0, l1, some (.int x), l3] (.int x :: S) (rz_mk h ι, w) := rz_s1 fun _ => rfl
theorem g228_35 : rg Z d rx_m228 35 L (.int y :: .int x :: S) (rz_mk h ι, w) = rg Z d rx_m228 36 L (.int (x <<< (y &&& 31)) :: S) (rz_mk h ι, w) := rz_s1 fun _ => rfl
theorem g228_36 : rg Z d rx_m228 36 L S (rz_mk h ι, w) = rg Z d rx_m228 37 L (.int (-1) :: S) (rz_mk h ι, w) := rz_s1 fun _ => rfl
theorem g228_37 : rg Z d rx_m228 37 L (.int y :: .int x :: S) (rz_mk h ι, w) = rg Z d rx_m228 38 L (.int (x ^^^ y) :: S) (rz_mk h ι, w) := rz_s1 fun _ => rfl
theorem g228_38 : rg Z d rx_m228 38 L (.int y :: .int x :: S) (rz_mk h ι, w) = rg Z d rx_m228 39 L (.int (x &&& y) :: S) (rz_mk h ι, w) := rz_s1 fun _ => rfl
theorem g228_39 (c : rz_ar h a 0) (hi : rz_ix x (rz_ln h a)) (hz : Z.2.1 ≤ a) : rg Z d rx_m228 39 L (.int y :: .int x :: .ref a :: S) (rz_mk h ι, w) = rg Z d rx_m228 40 L S (rz_mk h (rz_up ι a x.toNatClampNeg y), w) := rz_iast rfl c hi hz
theorem g228_40 : rg Z d rx_m228 40 [l0, some (.ref a), l2, l3] S (rz_mk h ι, w) = rg Z d rx_m228 41 [l0, some (.ref a), l2, l3] (.ref a :: S) (rz_mk h ι, w) := rz_s1 fun _ => rfl
theorem g228_41 : rg Z d rx_m228 41 L S (rz_mk h ι, w) = rg Z d rx_m228 43 L (.int 58 :: S) (rz_mk h ι, w) := rz_s1 fun _ => rfl
theorem g228_43 (c : rz_ar h a 0) (hi : rz_ix x (rz_ln h a)) : rg Z d rx_m228 43 L (.int x :: .ref a :: S) (rz_mk h ι, w) = rg Z d rx_m228 44 L (.int (ι a x.toNatClampNeg) :: S) (rz_mk h ι, w) := rz_iald rfl c hi
theorem g228_44 : rg Z d rx_m228 44 [l0, l1, some (.int x), l3] S (rz_mk h ι, w) = rg Z d rx_m228 45 [l0, l1, some (.int x), l3] (.int x :: S) (rz_mk h ι, w) := rz_s1 fun _ => rfl
theorem g228_45 : rg Z d rx_m228 45 L (.int y :: .int x :: S) (rz_mk h ι, w) = if x = y then rg Z d rx_m228 50 L S (rz_mk h ι, w) else rg Z d rx_m228 48 L S (rz_mk h ι, w) := rz_if2 (pc := 45) (t := 50) (off := 5) (cc := .eq) (by decide) rfl
theorem g228_48 : rg Z d rx_m228 48 L S (rz_mk h ι, w) = rg Z d rx_m228 49 L (.int 1 :: S) (rz_mk h ι, w) := rz_s1 fun _ => rfl
theorem g228_49 (c : narrow .boolean (.int x) = .int x) : rg Z d rx_m228 49 L [.int x] (rz_mk h ι, w) = some (.inl (some (.int x)), (rz_mk h ι, w)) := rz_reti rfl rfl c
theorem g228_50 : rg Z d rx_m228 50 [l0, some (.ref a), l2, l3] S (rz_mk h ι, w) = rg Z d rx_m228 51 [l0, some (.ref a), l2, l3] (.ref a :: S) (rz_mk h ι, w) := rz_s1 fun _ => rfl
theorem g228_51 : rg Z d rx_m228 51 L S (rz_mk h ι, w) = rg Z d rx_m228 53 L (.int 58 :: S) (rz_mk h ι, w) := rz_s1 fun _ => rfl
theorem g228_53 : rg Z d rx_m228 53 [l0, l1, l2, some (.int x)] S (rz_mk h ι, w) = rg Z d rx_m228 54 [l0, l1, l2, some (.int x)] (.int x :: S) (rz_mk h ι, w) := rz_s1 fun _ => rfl
theorem g228_54 (c : rz_ar h a 0) (hi : rz_ix x (rz_ln h a)) (hz : Z.2.1 ≤ a) : rg Z d rx_m228 54 L (.int y :: .int x :: .ref a :: S) (rz_mk h ι, w) = rg Z d rx_m228 55 L S (rz_mk h (rz_up ι a x.toNatClampNeg y), w) := rz_iast rfl c hi hz
theorem g228_55 : rg Z d rx_m228 55 [l0, some (.ref a), l2, l3] S (rz_mk h ι, w) = rg Z d rx_m228 56 [l0, some (.ref a), l2, l3] (.ref a :: S) (rz_mk h ι, w) := rz_s1 fun _ => rfl
theorem g228_56 : rg Z d rx_m228 56 L S (rz_mk h ι, w) = rg Z d rx_m228 58 L (.int 59 :: S) (rz_mk h ι, w) := rz_s1 fun _ => rfl
theorem g228_58 : rg Z d rx_m228 58 L S (rz_mk h ι, w) = rg Z d rx_m228 59 L (.int 0 :: S) (rz_mk h ι, w) := rz_s1 fun _ => rfl
theorem g228_59 (c : rz_ar h a 0) (hi : rz_ix x (rz_ln h a)) (hz : Z.2.1 ≤ a) : rg Z d rx_m228 59 L (.int y :: .int x :: .ref a :: S) (rz_mk h ι, w) = rg Z d rx_m228 60 L S (rz_mk h (rz_up ι a x.toNatClampNeg y), w) := rz_iast rfl c hi hz
theorem g228_60 : rg Z d rx_m228 60 [l0, some (.ref a), l2, l3] S (rz_mk h ι, w) = rg Z d rx_m228 61 [l0, some (.ref a), l2, l3] (.ref a :: S) (rz_mk h ι, w) := rz_s1 fun _ => rfl
theorem g228_61 : rg Z d rx_m228 61 L S (rz_mk h ι, w) = rg Z d rx_m228 63 L (.int 60 :: S) (rz_mk h ι, w) := rz_s1 fun _ => rfl
theorem g228_63 : rg Z d rx_m228 63 L (.int x :: .ref b :: S) (rz_mk h ι, w) = rg Z d rx_m228 64 L (.int x :: .ref b :: .int x :: .ref b :: S) (rz_mk h ι, w) := rz_s1 fun _ => rfl
theorem g228_64 (c : rz_ar h a 0) (hi : rz_ix x (rz_ln h a)) : rg Z d rx_m228 64 L (.int x :: .ref a :: S) (rz_mk h ι, w) = rg Z d rx_m228 65 L (.int (ι a x.toNatClampNeg) :: S) (rz_mk h ι, w) := rz_iald rfl c hi
theorem g228_65 : rg Z d rx_m228 65 [l0, l1, l2, some (.int x)] S (rz_mk h ι, w) = rg Z d rx_m228 66 [l0, l1, l2, some (.int x)] (.int x :: S) (rz_mk h ι, w) := rz_s1 fun _ => rfl
theorem g228_66 : rg Z d rx_m228 66 L S (rz_mk h ι, w) = rg Z d rx_m228 67 L (.int (-1) :: S) (rz_mk h ι, w) := rz_s1 fun _ => rfl
theorem g228_67 : rg Z d rx_m228 67 L (.int y :: .int x :: S) (rz_mk h ι, w) = if x = y then rg Z d rx_m228 70 L S (rz_mk h ι, w) else rg Z d rx_m228 74 L S (rz_mk h ι, w) := rz_if2 (pc := 67) (t := 74) (off := 7) (cc := .ne) (by decide) rfl
theorem g228_70 : rg Z d rx_m228 70 L S (rz_mk h ι, w) = rg Z d rx_m228 71 L (.int 0 :: S) (rz_mk h ι, w) := rz_s1 fun _ => rfl
theorem g228_71 : rg Z d rx_m228 71 L S (rz_mk h ι, w) = rg Z d rx_m228 75 L S (rz_mk h ι, w) := rz_s1 fun _ => rfl
theorem g228_74 : rg Z d rx_m228 74 L S (rz_mk h ι, w) = rg Z d rx_m228 75 L (.int 1 :: S) (rz_mk h ι, w) := rz_s1 fun _ => rfl
theorem g228_75 : rg Z d rx_m228 75 L (.int y :: .int x :: S) (rz_mk h ι, w) = rg Z d rx_m228 76 L (.int (x + y) :: S) (rz_mk h ι, w) := rz_s1 fun _ => rfl
theorem g228_76 (c : rz_ar h a 0) (hi : rz_ix x (rz_ln h a)) (hz : Z.2.1 ≤ a) : rg Z d rx_m228 76 L (.int y :: .int x :: .ref a :: S) (rz_mk h ι, w) = rg Z d rx_m228 77 L S (rz_mk h (rz_up ι a x.toNatClampNeg y), w) := rz_iast rfl c hi hz
theorem g228_77 : rg Z d rx_m228 77 L S (rz_mk h ι, w) = rg Z d rx_m228 78 L (.int 1 :: S) (rz_mk h ι, w) := rz_s1 fun _ => rfl
theorem g228_78 (c : narrow .boolean (.int x) = .int x) : rg Z d rx_m228 78 L [.int x] (rz_mk h ι, w) = some (.inl (some (.int x)), (rz_mk h ι, w)) := rz_reti rfl rfl c
theorem e228 : rz_f Z (d + 1) 228 [.ref t0, .ref t1, .int s2] σ = rg Z d rx_m228 0 [some (.ref t0), some (.ref t1), some (.int s2), none] [] σ := rz_f_eq rfl (Nat.le_of_ble_eq_true rfl)
theorem g229_0 : rg Z d rx_m229 0 L S (rz_mk h ι, w) = rg Z d rx_m229 1 L (.int 0 :: S) (rz_mk h ι, w) := rz_s1 fun _ => rfl
theorem g229_1 : rg Z d rx_m229 1 [some (.ref b), l1] (.int x :: S) (rz_mk h ι, w) = rg Z d rx_m229 2 [some (.ref b), some (.int x)] S (rz_mk h ι, w) := rz_s1 fun _ => rfl
theorem g229_2 : rg Z d rx_m229 2 [l0, some (.int x)] S (rz_mk h ι, w) = rg Z d rx_m229 3 [l0, some (.int x)] (.int x :: S) (rz_mk h ι, w) := rz_s1 fun _ => rfl
theorem g229_3 : rg Z d rx_m229 3 [some (.ref a), l1] S (rz_mk h ι, w) = rg Z d rx_m229 4 [some (.ref a), l1] (.ref a :: S) (rz_mk h ι, w) := rz_s1 fun _ => rfl
theorem g229_4 : rg Z d rx_m229 4 L S (rz_mk h ι, w) = rg Z d rx_m229 6 L (.int 57 :: S) (rz_mk h ι, w) := rz_s1 fun _ => rfl
theorem g229_6 (c : rz_ar h a 0) (hi : rz_ix x (rz_ln h a)) : rg Z d rx_m229 6 L (.int x :: .ref a :: S) (rz_mk h ι, w) = rg Z d rx_m229 7 L (.int (ι a x.toNatClampNeg) :: S) (rz_mk h ι, w) := rz_iald rfl c hi
theorem g229_7 : rg Z d rx_m229 7 L (.int y :: .int x :: S) (rz_mk h ι, w) = if x < y then rg Z d rx_m229 10 L S (rz_mk h ι, w) else rg Z d rx_m229 38 L S (rz_mk h ι, w) := rz_if2 (pc := 7) (t := 38) (off := 31) (cc := .ge) (by decide) rfl
theorem g229_10 : rg Z d rx_m229 10 [some (.ref a), l1] S (rz_mk h ι, w) = rg Z d rx_m229 11 [some (.ref a), l1] (.ref a :: S) (rz_mk h ι, w) := rz_s1 fun _ => rfl
theorem g229_11 : rg Z d rx_m229 11 L S (rz_mk h ι, w) = rg Z d rx_m229 13 L (.int 48 :: S) (rz_mk h ι, w) := rz_s1 fun _ => rfl
theorem g229_13 : rg Z d rx_m229 13 [l0, some (.int x)] S (rz_mk h ι, w) = rg Z d rx_m229 14 [l0, some (.int x)] (.int x :: S) (rz_mk h ι, w) := rz_s1 fun _ => rfl
theorem g229_14 : rg Z d rx_m229 14 L (.int y :: .int x :: S) (rz_mk h ι, w) = rg Z d rx_m229 15 L (.int (x + y) :: S) (rz_mk h ι, w) := rz_s1 fun _ => rfl
theorem g229_15 : rg Z d rx_m229 15 L (.int x :: .ref b :: S) (rz_mk h ι, w) = rg Z d rx_m229 16 L (.int x :: .ref b :: .int x :: .ref b :: S) (rz_mk h ι, w) := rz_s1 fun _ => rfl
theorem g229_16 (c : rz_ar h a 0) (hi : rz_ix x (rz_ln h a)) : rg Z d rx_m229 16 L (.int x :: .ref a :: S) (rz_mk h ι, w) = rg Z d rx_m229 17 L (.int (ι a x.toNatClampNeg) :: S) (rz_mk h ι, w) := rz_iald rfl c hi
theorem g229_17 : rg Z d rx_m229 17 [some (.ref a), l1] S (rz_mk h ι, w) = rg Z d rx_m229 18 [some (.ref a), l1] (.ref a :: S) (rz_mk h ι, w) := rz_s1 fun _ => rfl
theorem g229_18 : rg Z d rx_m229 18 [l0, some (.int x)] S (rz_mk h ι, w) = rg Z d rx_m229 19 [l0, some (.int x)] (.int x :: S) (rz_mk h ι, w) := rz_s1 fun _ => rfl
theorem g229_19 : rg Z d rx_m229 19 L (v2 :: v1 :: [.int s0, .int s1, .ref t2]) (rz_mk h ι, w) = rz_k true (rz_f Z d 222 [v1, v2] (rz_mk h ι, w)) (fun v σ' => rg Z d rx_m229 22 L (v.toList ++ [.int s0, .int s1, .ref t2]) σ') := rz_cs (pc := 19) (n := 2) (mi := 222) (S := v2 :: v1 :: [.int s0, .int s1, .ref t2]) (rest := [.int s0, .int s1, .ref t2]) rfl rfl (Nat.le_of_ble_eq_true rfl) (Nat.le_of_ble_eq_true rfl)
theorem g229_22 : rg Z d rx_m229 22 L (.int x :: S) (rz_mk h ι, w) = if x = 0 then rg Z d rx_m229 29 L S (rz_mk h ι, w) else rg Z d rx_m229 25 L S (rz_mk h ι, w) := rz_if1 (pc := 22) (t := 29) (off := 7) (cc := .eq) (by decide) rfl
theorem g229_25 : rg Z d rx_m229 25 L S (rz_mk h ι, w) = rg Z d rx_m229 26 L (.int 1 :: S) (rz_mk h ι, w) := rz_s1 fun _ => rfl
theorem g229_26 : rg Z d rx_m229 26 L S (rz_mk h ι, w) = rg Z d rx_m229 30 L S (rz_mk h ι, w) := rz_s1 fun _ => rfl
theorem g229_29 : rg Z d rx_m229 29 L S (rz_mk h ι, w) = rg Z d rx_m229 30 L (.int 0 :: S) (rz_mk h ι, w) := rz_s1 fun _ => rfl
theorem g229_30 : rg Z d rx_m229 30 L (.int y :: .int x :: S) (rz_mk h ι, w) = rg Z d rx_m229 31 L (.int (x + y) :: S) (rz_mk h ι, w) := rz_s1 fun _ => rfl
theorem g229_31 (c : rz_ar h a 0) (hi : rz_ix x (rz_ln h a)) (hz : Z.2.1 ≤ a) : rg Z d rx_m229 31 L (.int y :: .int x :: .ref a :: S) (rz_mk h ι, w) = rg Z d rx_m229 32 L S (rz_mk h (rz_up ι a x.toNatClampNeg y), w) := rz_iast rfl c hi hz
theorem g229_32 : rg Z d rx_m229 32 [some (.ref b), some (.int x)] S (rz_mk h ι, w) = rg Z d rx_m229 35 [some (.ref b), some (.int (x + 1))] S (rz_mk h ι, w) := rz_s1 fun _ => rfl
theorem g229_35 : rg Z d rx_m229 35 L S (rz_mk h ι, w) = rg Z d rx_m229 2 L S (rz_mk h ι, w) := rz_s1 fun _ => rfl
theorem g229_38 : rg Z d rx_m229 38 [some (.ref a), l1] S (rz_mk h ι, w) = rg Z d rx_m229 39 [some (.ref a), l1] (.ref a :: S) (rz_mk h ι, w) := rz_s1 fun _ => rfl
theorem g229_39 : rg Z d rx_m229 39 L S (rz_mk h ι, w) = rg Z d rx_m229 41 L (.int 59 :: S) (rz_mk h ι, w) := rz_s1 fun _ => rfl
theorem g229_41 : rg Z d rx_m229 41 L (.int x :: .ref b :: S) (rz_mk h ι, w) = rg Z d rx_m229 42 L (.int x :: .ref b :: .int x :: .ref b :: S) (rz_mk h ι, w) := rz_s1 fun _ => rfl
theorem g229_42 (c : rz_ar h a 0) (hi : rz_ix x (rz_ln h a)) : rg Z d rx_m229 42 L (.int x :: .ref a :: S) (rz_mk h ι, w) = rg Z d rx_m229 43 L (.int (ι a x.toNatClampNeg) :: S) (rz_mk h ι, w) := rz_iald rfl c hi
theorem g229_43 : rg Z d rx_m229 43 [some (.ref a), l1] S (rz_mk h ι, w) = rg Z d rx_m229 44 [some (.ref a), l1] (.ref a :: S) (rz_mk h ι, w) := rz_s1 fun _ => rfl
theorem g229_44 : rg Z d rx_m229 44 L S (rz_mk h ι, w) = rg Z d rx_m229 46 L (.int 58 :: S) (rz_mk h ι, w) := rz_s1 fun _ => rfl
theorem g229_46 (c : rz_ar h a 0) (hi : rz_ix x (rz_ln h a)) : rg Z d rx_m229 46 L (.int x :: .ref a :: S) (rz_mk h ι, w) = rg Z d rx_m229 47 L (.int (ι a x.toNatClampNeg) :: S) (rz_mk h ι, w) := rz_iald rfl c hi
theorem g229_47 : rg Z d rx_m229 47 L S (rz_mk h ι, w) = rg Z d rx_m229 48 L (.int (-1) :: S) (rz_mk h ι, w) := rz_s1 fun _ => rfl
theorem g229_48 : rg Z d rx_m229 48 L (.int y :: .int x :: S) (rz_mk h ι, w) = if x = y then rg Z d rx_m229 51 L S (rz_mk h ι, w) else rg Z d rx_m229 55 L S (rz_mk h ι, w) := rz_if2 (pc := 48) (t := 55) (off := 7) (cc := .ne) (by decide) rfl
theorem g229_51 : rg Z d rx_m229 51 L S (rz_mk h ι, w) = rg Z d rx_m229 52 L (.int 0 :: S) (rz_mk h ι, w) := rz_s1 fun _ => rfl
theorem g229_52 : rg Z d rx_m229 52 L S (rz_mk h ι, w) = rg Z d rx_m229 56 L S (rz_mk h ι, w) := rz_s1 fun _ => rfl
theorem g229_55 : rg Z d rx_m229 55 L S (rz_mk h ι, w) = rg Z d rx_m229 56 L (.int 1 :: S) (rz_mk h ι, w) := rz_s1 fun _ => rfl
theorem g229_56 : rg Z d rx_m229 56 L (.int y :: .int x :: S) (rz_mk h ι, w) = rg Z d rx_m229 57 L (.int (x + y) :: S) (rz_mk h ι, w) := rz_s1 fun _ => rfl
theorem g229_57 (c : rz_ar h a 0) (hi : rz_ix x (rz_ln h a)) (hz : Z.2.1 ≤ a) : rg Z d rx_m229 57 L (.int y :: .int x :: .ref a :: S) (rz_mk h ι, w) = rg Z d rx_m229 58 L S (rz_mk h (rz_up ι a x.toNatClampNeg y), w) := rz_iast rfl c hi hz
theorem g229_58 : rg Z d rx_m229 58 [some (.ref a), l1] S (rz_mk h ι, w) = rg Z d rx_m229 59 [some (.ref a), l1] (.ref a :: S) (rz_mk h ι, w) := rz_s1 fun _ => rfl
theorem g229_59 : rg Z d rx_m229 59 L S (rz_mk h ι, w) = rg Z d rx_m229 61 L (.int 61 :: S) (rz_mk h ι, w) := rz_s1 fun _ => rfl
theorem g229_61 : rg Z d rx_m229 61 L (.int x :: .ref b :: S) (rz_mk h ι, w) = rg Z d rx_m229 62 L (.int x :: .ref b :: .int x :: .ref b :: S) (rz_mk h ι, w) := rz_s1 fun _ => rfl
theorem g229_62 (c : rz_ar h a 0) (hi : rz_ix x (rz_ln h a)) : rg Z d rx_m229 62 L (.int x :: .ref a :: S) (rz_mk h ι, w) = rg Z d rx_m229 63 L (.int (ι a x.toNatClampNeg) :: S) (rz_mk h ι, w) := rz_iald rfl c hi
theorem g229_63 : rg Z d rx_m229 63 L S (rz_mk h ι, w) = rg Z d rx_m229 64 L (.int 1 :: S) (rz_mk h ι, w) := rz_s1 fun _ => rfl
theorem g229_64 : rg Z d rx_m229 64 L (.int y :: .int x :: S) (rz_mk h ι, w) = rg Z d rx_m229 65 L (.int (x + y) :: S) (rz_mk h ι, w) := rz_s1 fun _ => rfl
theorem g229_65 (c : rz_ar h a 0) (hi : rz_ix x (rz_ln h a)) (hz : Z.2.1 ≤ a) : rg Z d rx_m229 65 L (.int y :: .int x :: .ref a :: S) (rz_mk h ι, w) = rg Z d rx_m229 66 L S (rz_mk h (rz_up ι a x.toNatClampNeg y), w) := rz_iast rfl c hi hz
theorem g229_66 : rg Z d rx_m229 66 L [] (rz_mk h ι, w) = some (.inl none, (rz_mk h ι, w)) := rz_r1 fun _ => rfl
theorem e229 : rz_f Z (d + 1) 229 [.ref t0] σ = rg Z d rx_m229 0 [some (.ref t0), none] [] σ := rz_f_eq rfl (Nat.le_of_ble_eq_true rfl)
theorem g230_0 : rg Z d rx_m230 0 [l0, l1, some (.ref a), l3] S (rz_mk h ι, w) = rg Z d rx_m230 1 [l0, l1, some (.ref a), l3] (.ref a :: S) (rz_mk h ι, w) := rz_s1 fun _ => rfl
theorem g230_1 : rg Z d rx_m230 1 L S (rz_mk h ι, w) = rg Z d rx_m230 2 L (.int 1 :: S) (rz_mk h ι, w) := rz_s1 fun _ => rfl
theorem g230_2 (c : rz_ar h a 0) (hi : rz_ix x (rz_ln h a)) : rg Z d rx_m230 2 L (.int x :: .ref a :: S) (rz_mk h ι, w) = rg Z d rx_m230 3 L (.int (ι a x.toNatClampNeg) :: S) (rz_mk h ι, w) := rz_iald rfl c hi
theorem g230_3 : rg Z d rx_m230 3 [l0, l1, some (.ref b), l3] (.int x :: S) (rz_mk h ι, w) = rg Z d rx_m230 4 [l0, l1, some (.ref b), some (.int x)] S (rz_mk h ι, w) := rz_s1 fun _ => rfl
theorem g230_4 : rg Z d rx_m230 4 [l0, l1, some (.ref a), l3] S (rz_mk h ι, w) = rg Z d rx_m230 5 [l0, l1, some (.ref a), l3] (.ref a :: S) (rz_mk h ι, w) := rz_s1 fun _ => rfl
theorem g230_5 : rg Z d rx_m230 5 L S (rz_mk h ι, w) = rg Z d rx_m230 6 L (.int 0 :: S) (rz_mk h ι, w) := rz_s1 fun _ => rfl
theorem g230_6 (c : rz_ar h a 0) (hi : rz_ix x (rz_ln h a)) : rg Z d rx_m230 6 L (.int x :: .ref a :: S) (rz_mk h ι, w) = rg Z d rx_m230 7 L (.int (ι a x.toNatClampNeg) :: S) (rz_mk h ι, w) := rz_iald rfl c hi
theorem g230_7 : rg Z d rx_m230 7 L (.int x :: S) (rz_mk h ι, w) = if x = 0 then rg Z d rx_m230 36 L S (rz_mk h ι, w) else if x = 1 then rg Z d rx_m230 70 L S (rz_mk h ι, w) else if x = 2 then rg Z d rx_m230 76 L S (rz_mk h ι, w) else if x = 3 then rg Z d rx_m230 85 L S (rz_mk h ι, w) else rg Z d rx_m230 92 L S (rz_mk h ι, w) := by
  by_cases c0 : x = 0
  · rw [if_pos c0, c0]; exact rz_s1 fun _ => rfl
  rw [if_neg c0]
  by_cases c1 : x = 1
  · rw [if_pos c1, c1]; exact rz_s1 fun _ => rfl
  rw [if_neg c1]
  by_cases c2 : x = 2
  · rw [if_pos c2, c2]; exact rz_s1 fun _ => rfl
  rw [if_neg c2]
  by_cases c3 : x = 3
  · rw [if_pos c3, c3]; exact rz_s1 fun _ => rfl
  rw [if_neg c3]
  refine rz_s1 fun c => ?_
  unfold rx_at1
  show ((if x.toInt < 0 ∨ 3 < x.toInt then rx_jmp _ _ _ _ else _) : rx_P).map _ = _
  rw [if_pos]
  · rfl
  · apply Decidable.byContradiction
    intro hc
    have hn : x.toInt = 0 ∨ x.toInt = 1 ∨ x.toInt = 2 ∨ x.toInt = 3 := by omega
    rcases hn with hn | hn | hn | hn
    · exact c0 (Int32.toInt_inj.mp (hn.trans (by decide)))
    · exact c1 (Int32.toInt_inj.mp (hn.trans (by decide)))
    · exact c2 (Int32.toInt_inj.mp (hn.trans (by decide)))
    · exact c3 (Int32.toInt_inj.mp (hn.trans (by decide)))
theorem g230_36 : rg Z d rx_m230 36 [l0, some (.ref a), l2, l3] S (rz_mk h ι, w) = rg Z d rx_m230 37 [l0, some (.ref a), l2, l3] (.ref a :: S) (rz_mk h ι, w) := rz_s1 fun _ => rfl
theorem g230_37 : rg Z d rx_m230 37 [l0, l1, l2, some (.int x)] S (rz_mk h ι, w) = rg Z d rx_m230 38 [l0, l1, l2, some (.int x)] (.int x :: S) (rz_mk h ι, w) := rz_s1 fun _ => rfl
theorem g230_38 : rg Z d rx_m230 38 L (v2 :: v1 :: []) (rz_mk h ι, w) = rz_k true (rz_f Z d 222 [v1, v2] (rz_mk h ι, w)) (fun v σ' => rg Z d rx_m230 41 L (v.toList ++ []) σ') := rz_cs (pc := 38) (n := 2) (mi := 222) (S := v2 :: v1 :: []) (rest := []) rfl rfl (Nat.le_of_ble_eq_true rfl) (Nat.le_of_ble_eq_true rfl)
theorem g230_41 : rg Z d rx_m230 41 L (.int x :: S) (rz_mk h ι, w) = if x = 0 then rg Z d rx_m230 68 L S (rz_mk h ι, w) else rg Z d rx_m230 44 L S (rz_mk h ι, w) := rz_if1 (pc := 41) (t := 68) (off := 27) (cc := .eq) (by decide) rfl
theorem g230_44 : rg Z d rx_m230 44 [l0, some (.ref a), l2, l3] S (rz_mk h ι, w) = rg Z d rx_m230 45 [l0, some (.ref a), l2, l3] (.ref a :: S) (rz_mk h ι, w) := rz_s1 fun _ => rfl
theorem g230_45 : rg Z d rx_m230 45 L S (rz_mk h ι, w) = rg Z d rx_m230 47 L (.int 24 :: S) (rz_mk h ι, w) := rz_s1 fun _ => rfl
theorem g230_47 : rg Z d rx_m230 47 L S (rz_mk h ι, w) = rg Z d rx_m230 48 L (.int 3 :: S) (rz_mk h ι, w) := rz_s1 fun _ => rfl
theorem g230_48 : rg Z d rx_m230 48 [l0, l1, l2, some (.int x)] S (rz_mk h ι, w) = rg Z d rx_m230 49 [l0, l1, l2, some (.int x)] (.int x :: S) (rz_mk h ι, w) := rz_s1 fun _ => rfl
theorem g230_49 : rg Z d rx_m230 49 L (.int y :: .int x :: S) (rz_mk h ι, w) = rg Z d rx_m230 50 L (.int (x * y) :: S) (rz_mk h ι, w) := rz_s1 fun _ => rfl
theorem g230_50 : rg Z d rx_m230 50 L (.int y :: .int x :: S) (rz_mk h ι, w) = rg Z d rx_m230 51 L (.int (x + y) :: S) (rz_mk h ι, w) := rz_s1 fun _ => rfl
theorem g230_51 : rg Z d rx_m230 51 [l0, l1, some (.ref a), l3] S (rz_mk h ι, w) = rg Z d rx_m230 52 [l0, l1, some (.ref a), l3] (.ref a :: S) (rz_mk h ι, w) := rz_s1 fun _ => rfl
theorem g230_52 : rg Z d rx_m230 52 L S (rz_mk h ι, w) = rg Z d rx_m230 53 L (.int 2 :: S) (rz_mk h ι, w) := rz_s1 fun _ => rfl
theorem g230_53 (c : rz_ar h a 0) (hi : rz_ix x (rz_ln h a)) : rg Z d rx_m230 53 L (.int x :: .ref a :: S) (rz_mk h ι, w) = rg Z d rx_m230 54 L (.int (ι a x.toNatClampNeg) :: S) (rz_mk h ι, w) := rz_iald rfl c hi
theorem g230_54 : rg Z d rx_m230 54 L (.int y :: .int x :: S) (rz_mk h ι, w) = rg Z d rx_m230 55 L (.int (x + y) :: S) (rz_mk h ι, w) := rz_s1 fun _ => rfl
theorem g230_55 : rg Z d rx_m230 55 [l0, l1, some (.ref a), l3] S (rz_mk h ι, w) = rg Z d rx_m230 56 [l0, l1, some (.ref a), l3] (.ref a :: S) (rz_mk h ι, w) := rz_s1 fun _ => rfl
theorem g230_56 : rg Z d rx_m230 56 L S (rz_mk h ι, w) = rg Z d rx_m230 57 L (.int 3 :: S) (rz_mk h ι, w) := rz_s1 fun _ => rfl
theorem g230_57 (c : rz_ar h a 0) (hi : rz_ix x (rz_ln h a)) : rg Z d rx_m230 57 L (.int x :: .ref a :: S) (rz_mk h ι, w) = rg Z d rx_m230 58 L (.int (ι a x.toNatClampNeg) :: S) (rz_mk h ι, w) := rz_iald rfl c hi
theorem g230_58 : rg Z d rx_m230 58 L (v3 :: v2 :: v1 :: []) (rz_mk h ι, w) = rz_k true (rz_f Z d 225 [v1, v2, v3] (rz_mk h ι, w)) (fun v σ' => rg Z d rx_m230 61 L (v.toList ++ []) σ') := rz_cs (pc := 58) (n := 3) (mi := 225) (S := v3 :: v2 :: v1 :: []) (rest := []) rfl rfl (Nat.le_of_ble_eq_true rfl) (Nat.le_of_ble_eq_true rfl)
theorem g230_61 : rg Z d rx_m230 61 L (.int x :: S) (rz_mk h ι, w) = if x = 0 then rg Z d rx_m230 68 L S (rz_mk h ι, w) else rg Z d rx_m230 64 L S (rz_mk h ι, w) := rz_if1 (pc := 61) (t := 68) (off := 7) (cc := .eq) (by decide) rfl
theorem g230_64 : rg Z d rx_m230 64 L S (rz_mk h ι, w) = rg Z d rx_m230 65 L (.int 1 :: S) (rz_mk h ι, w) := rz_s1 fun _ => rfl
theorem g230_65 : rg Z d rx_m230 65 L S (rz_mk h ι, w) = rg Z d rx_m230 69 L S (rz_mk h ι, w) := rz_s1 fun _ => rfl
theorem g230_68 : rg Z d rx_m230 68 L S (rz_mk h ι, w) = rg Z d rx_m230 69 L (.int 0 :: S) (rz_mk h ι, w) := rz_s1 fun _ => rfl
theorem g230_69 (c : narrow .boolean (.int x) = .int x) : rg Z d rx_m230 69 L [.int x] (rz_mk h ι, w) = some (.inl (some (.int x)), (rz_mk h ι, w)) := rz_reti rfl rfl c
theorem g230_70 : rg Z d rx_m230 70 [l0, some (.ref a), l2, l3] S (rz_mk h ι, w) = rg Z d rx_m230 71 [l0, some (.ref a), l2, l3] (.ref a :: S) (rz_mk h ι, w) := rz_s1 fun _ => rfl
theorem g230_71 : rg Z d rx_m230 71 [l0, l1, l2, some (.int x)] S (rz_mk h ι, w) = rg Z d rx_m230 72 [l0, l1, l2, some (.int x)] (.int x :: S) (rz_mk h ι, w) := rz_s1 fun _ => rfl
theorem g230_72 : rg Z d rx_m230 72 L (v2 :: v1 :: []) (rz_mk h ι, w) = rz_k true (rz_f Z d 226 [v1, v2] (rz_mk h ι, w)) (fun v σ' => rg Z d rx_m230 75 L (v.toList ++ []) σ') := rz_cs (pc := 72) (n := 2) (mi := 226) (S := v2 :: v1 :: []) (rest := []) rfl rfl (Nat.le_of_ble_eq_true rfl) (Nat.le_of_ble_eq_true rfl)
theorem g230_75 (c : narrow .boolean (.int x) = .int x) : rg Z d rx_m230 75 L [.int x] (rz_mk h ι, w) = some (.inl (some (.int x)), (rz_mk h ι, w)) := rz_reti rfl rfl c
theorem g230_76 : rg Z d rx_m230 76 [l0, some (.ref a), l2, l3] S (rz_mk h ι, w) = rg Z d rx_m230 77 [l0, some (.ref a), l2, l3] (.ref a :: S) (rz_mk h ι, w) := rz_s1 fun _ => rfl
theorem g230_77 : rg Z d rx_m230 77 [l0, l1, l2, some (.int x)] S (rz_mk h ι, w) = rg Z d rx_m230 78 [l0, l1, l2, some (.int x)] (.int x :: S) (rz_mk h ι, w) := rz_s1 fun _ => rfl
theorem g230_78 : rg Z d rx_m230 78 [l0, l1, some (.ref a), l3] S (rz_mk h ι, w) = rg Z d rx_m230 79 [l0, l1, some (.ref a), l3] (.ref a :: S) (rz_mk h ι, w) := rz_s1 fun _ => rfl
theorem g230_79 : rg Z d rx_m230 79 L S (rz_mk h ι, w) = rg Z d rx_m230 80 L (.int 2 :: S) (rz_mk h ι, w) := rz_s1 fun _ => rfl
theorem g230_80 (c : rz_ar h a 0) (hi : rz_ix x (rz_ln h a)) : rg Z d rx_m230 80 L (.int x :: .ref a :: S) (rz_mk h ι, w) = rg Z d rx_m230 81 L (.int (ι a x.toNatClampNeg) :: S) (rz_mk h ι, w) := rz_iald rfl c hi
theorem g230_81 : rg Z d rx_m230 81 L (v3 :: v2 :: v1 :: []) (rz_mk h ι, w) = rz_k true (rz_f Z d 227 [v1, v2, v3] (rz_mk h ι, w)) (fun v σ' => rg Z d rx_m230 84 L (v.toList ++ []) σ') := rz_cs (pc := 81) (n := 3) (mi := 227) (S := v3 :: v2 :: v1 :: []) (rest := []) rfl rfl (Nat.le_of_ble_eq_true rfl) (Nat.le_of_ble_eq_true rfl)
theorem g230_84 (c : narrow .boolean (.int x) = .int x) : rg Z d rx_m230 84 L [.int x] (rz_mk h ι, w) = some (.inl (some (.int x)), (rz_mk h ι, w)) := rz_reti rfl rfl c
theorem g230_85 : rg Z d rx_m230 85 [some (.ref a), l1, l2, l3] S (rz_mk h ι, w) = rg Z d rx_m230 86 [some (.ref a), l1, l2, l3] (.ref a :: S) (rz_mk h ι, w) := rz_s1 fun _ => rfl
theorem g230_86 : rg Z d rx_m230 86 [l0, some (.ref a), l2, l3] S (rz_mk h ι, w) = rg Z d rx_m230 87 [l0, some (.ref a), l2, l3] (.ref a :: S) (rz_mk h ι, w) := rz_s1 fun _ => rfl
theorem g230_87 : rg Z d rx_m230 87 [l0, l1, l2, some (.int x)] S (rz_mk h ι, w) = rg Z d rx_m230 88 [l0, l1, l2, some (.int x)] (.int x :: S) (rz_mk h ι, w) := rz_s1 fun _ => rfl
theorem g230_88 (c : rz_oc h a 12) : rg Z d rx_m230 88 L (v2 :: v1 :: .ref a :: []) (rz_mk h ι, w) = rz_k true (rz_f Z d 228 [.ref a, v1, v2] (rz_mk h ι, w)) (fun v σ' => rg Z d rx_m230 91 L (v.toList ++ []) σ') := rz_cv (pc := 88) (n := 2) (mi := 228) (S := v2 :: v1 :: .ref a :: []) (rest := []) rfl rfl (Nat.le_of_ble_eq_true rfl) (Nat.le_of_ble_eq_true rfl) c
theorem g230_91 (c : narrow .boolean (.int x) = .int x) : rg Z d rx_m230 91 L [.int x] (rz_mk h ι, w) = some (.inl (some (.int x)), (rz_mk h ι, w)) := rz_reti rfl rfl c
theorem g230_92 : rg Z d rx_m230 92 [l0, some (.ref a), l2, l3] S (rz_mk h ι, w) = rg Z d rx_m230 93 [l0, some (.ref a), l2, l3] (.ref a :: S) (rz_mk h ι, w) := rz_s1 fun _ => rfl
theorem g230_93 : rg Z d rx_m230 93 L S (rz_mk h ι, w) = rg Z d rx_m230 95 L (.int 61 :: S) (rz_mk h ι, w) := rz_s1 fun _ => rfl
theorem g230_95 (c : rz_ar h a 0) (hi : rz_ix x (rz_ln h a)) : rg Z d rx_m230 95 L (.int x :: .ref a :: S) (rz_mk h ι, w) = rg Z d rx_m230 96 L (.int (ι a x.toNatClampNeg) :: S) (rz_mk h ι, w) := rz_iald rfl c hi
theorem g230_96 : rg Z d rx_m230 96 L S (rz_mk h ι, w) = rg Z d rx_m230 99 L (.int 900 :: S) (rz_mk h ι, w) := rz_s1 fun _ => rfl
theorem g230_99 : rg Z d rx_m230 99 L (.int y :: .int x :: S) (rz_mk h ι, w) = if x < y then rg Z d rx_m230 104 L S (rz_mk h ι, w) else rg Z d rx_m230 102 L S (rz_mk h ι, w) := rz_if2 (pc := 99) (t := 104) (off := 5) (cc := .lt) (by decide) rfl
theorem g230_102 : rg Z d rx_m230 102 L S (rz_mk h ι, w) = rg Z d rx_m230 103 L (.int 0 :: S) (rz_mk h ι, w) := rz_s1 fun _ => rfl
theorem g230_103 (c : narrow .boolean (.int x) = .int x) : rg Z d rx_m230 103 L [.int x] (rz_mk h ι, w) = some (.inl (some (.int x)), (rz_mk h ι, w)) := rz_reti rfl rfl c
theorem g230_104 : rg Z d rx_m230 104 [l0, some (.ref a), l2, l3] S (rz_mk h ι, w) = rg Z d rx_m230 105 [l0, some (.ref a), l2, l3] (.ref a :: S) (rz_mk h ι, w) := rz_s1 fun _ => rfl
theorem g230_105 : rg Z d rx_m230 105 L (v1 :: []) (rz_mk h ι, w) = rz_k true (rz_f Z d 229 [v1] (rz_mk h ι, w)) (fun v σ' => rg Z d rx_m230 108 L (v.toList ++ []) σ') := rz_cs (pc := 105) (n := 1) (mi := 229) (S := v1 :: []) (rest := []) rfl rfl (Nat.le_of_ble_eq_true rfl) (Nat.le_of_ble_eq_true rfl)
theorem g230_108 : rg Z d rx_m230 108 L S (rz_mk h ι, w) = rg Z d rx_m230 109 L (.int 1 :: S) (rz_mk h ι, w) := rz_s1 fun _ => rfl
theorem g230_109 (c : narrow .boolean (.int x) = .int x) : rg Z d rx_m230 109 L [.int x] (rz_mk h ι, w) = some (.inl (some (.int x)), (rz_mk h ι, w)) := rz_reti rfl rfl c
theorem e230 : rz_f Z (d + 1) 230 [.ref t0, .ref t1, .ref t2] σ = rg Z d rx_m230 0 [some (.ref t0), some (.ref t1), some (.ref t2), none] [] σ := rz_f_eq rfl (Nat.le_of_ble_eq_true rfl)
theorem g231_0 : rg Z d rx_m231 0 [l0, some (.int x), l2, l3, l4] S (rz_mk h ι, w) = rg Z d rx_m231 1 [l0, some (.int x), l2, l3, l4] (.int x :: S) (rz_mk h ι, w) := rz_s1 fun _ => rfl
theorem g231_1 : rg Z d rx_m231 1 [l0, l1, some (.int z), l3, l4] (.int x :: S) (rz_mk h ι, w) = rg Z d rx_m231 2 [l0, l1, some (.int z), some (.int x), l4] S (rz_mk h ι, w) := rz_s1 fun _ => rfl
theorem g231_2 : rg Z d rx_m231 2 [l0, l1, l2, some (.int x), l4] S (rz_mk h ι, w) = rg Z d rx_m231 3 [l0, l1, l2, some (.int x), l4] (.int x :: S) (rz_mk h ι, w) := rz_s1 fun _ => rfl
theorem g231_3 : rg Z d rx_m231 3 [l0, l1, some (.int x), l3, l4] S (rz_mk h ι, w) = rg Z d rx_m231 4 [l0, l1, some (.int x), l3, l4] (.int x :: S) (rz_mk h ι, w) := rz_s1 fun _ => rfl
theorem g231_4 : rg Z d rx_m231 4 L (.int y :: .int x :: S) (rz_mk h ι, w) = if x < y then rg Z d rx_m231 7 L S (rz_mk h ι, w) else rg Z d rx_m231 155 L S (rz_mk h ι, w) := rz_if2 (pc := 4) (t := 155) (off := 151) (cc := .ge) (by decide) rfl
theorem g231_7 : rg Z d rx_m231 7 [some (.ref a), l1, l2, l3, l4] S (rz_mk h ι, w) = rg Z d rx_m231 8 [some (.ref a), l1, l2, l3, l4] (.ref a :: S) (rz_mk h ι, w) := rz_s1 fun _ => rfl
theorem g231_8 (c : rz_fI h a 12 34) : rg Z d rx_m231 8 L (.ref a :: S) (rz_mk h ι, w) = rg Z d rx_m231 11 L (.int (ι a 34) :: S) (rz_mk h ι, w) := rz_gI rfl (by decide) c
theorem g231_11 : rg Z d rx_m231 11 L S (rz_mk h ι, w) = rg Z d rx_m231 14 L (.int 200 :: S) (rz_mk h ι, w) := rz_s1 fun _ => rfl
theorem g231_14 : rg Z d rx_m231 14 L (.int y :: .int x :: S) (rz_mk h ι, w) = if x < y then rg Z d rx_m231 17 L S (rz_mk h ι, w) else rg Z d rx_m231 155 L S (rz_mk h ι, w) := rz_if2 (pc := 14) (t := 155) (off := 141) (cc := .ge) (by decide) rfl
theorem g231_17 : rg Z d rx_m231 17 [some (.ref a), l1, l2, l3, l4] S (rz_mk h ι, w) = rg Z d rx_m231 18 [some (.ref a), l1, l2, l3, l4] (.ref a :: S) (rz_mk h ι, w) := rz_s1 fun _ => rfl
theorem g231_18 : rg Z d rx_m231 18 L (.ref a :: S) (rz_mk h ι, w) = rg Z d rx_m231 19 L (.ref a :: .ref a :: S) (rz_mk h ι, w) := rz_s1 fun _ => rfl
theorem g231_19 (c : rz_fI h a 12 34) : rg Z d rx_m231 19 L (.ref a :: S) (rz_mk h ι, w) = rg Z d rx_m231 22 L (.int (ι a 34) :: S) (rz_mk h ι, w) := rz_gI rfl (by decide) c
theorem g231_22 : rg Z d rx_m231 22 L S (rz_mk h ι, w) = rg Z d rx_m231 23 L (.int 1 :: S) (rz_mk h ι, w) := rz_s1 fun _ => rfl
theorem g231_23 : rg Z d rx_m231 23 L (.int y :: .int x :: S) (rz_mk h ι, w) = rg Z d rx_m231 24 L (.int (x + y) :: S) (rz_mk h ι, w) := rz_s1 fun _ => rfl
theorem g231_24 (c : rz_fI h a 12 34) (hz : Z.2.1 ≤ a) : rg Z d rx_m231 24 L (.int x :: .ref a :: S) (rz_mk h ι, w) = rg Z d rx_m231 27 L S (rz_mk h (rz_up ι a 34 x), w) := rz_pI rfl c hz
theorem g231_27 : rg Z d rx_m231 27 [some (.ref a), l1, l2, l3, l4] S (rz_mk h ι, w) = rg Z d rx_m231 28 [some (.ref a), l1, l2, l3, l4] (.ref a :: S) (rz_mk h ι, w) := rz_s1 fun _ => rfl
theorem g231_28 (c : rz_fR h a 12 23) : rg Z d rx_m231 28 L (.ref a :: S) (rz_mk h ι, w) = rg Z d rx_m231 31 L (rz_rv h a 23 :: S) (rz_mk h ι, w) := rz_gR rfl (by decide) c
theorem g231_31 : rg Z d rx_m231 31 [l0, l1, l2, some (.int x), l4] S (rz_mk h ι, w) = rg Z d rx_m231 32 [l0, l1, l2, some (.int x), l4] (.int x :: S) (rz_mk h ι, w) := rz_s1 fun _ => rfl
theorem g231_32 (c : rz_ar h a 3) (hi : rz_ix x (rz_ln h a)) : rg Z d rx_m231 32 L (.int x :: .ref a :: S) (rz_mk h ι, w) = rg Z d rx_m231 33 L (rz_el h a x.toNatClampNeg :: S) (rz_mk h ι, w) := rz_aald (by decide) rfl c hi
theorem g231_33 : rg Z d rx_m231 33 L S (rz_mk h ι, w) = rg Z d rx_m231 34 L (.int 0 :: S) (rz_mk h ι, w) := rz_s1 fun _ => rfl
theorem g231_34 (c : rz_ar h a 0) (hi : rz_ix x (rz_ln h a)) : rg Z d rx_m231 34 L (.int x :: .ref a :: S) (rz_mk h ι, w) = rg Z d rx_m231 35 L (.int (ι a x.toNatClampNeg) :: S) (rz_mk h ι, w) := rz_iald rfl c hi
theorem g231_35 : rg Z d rx_m231 35 L S (rz_mk h ι, w) = rg Z d rx_m231 36 L (.int 5 :: S) (rz_mk h ι, w) := rz_s1 fun _ => rfl
theorem g231_36 : rg Z d rx_m231 36 L (.int y :: .int x :: S) (rz_mk h ι, w) = if x = y then rg Z d rx_m231 39 L S (rz_mk h ι, w) else rg Z d rx_m231 89 L S (rz_mk h ι, w) := rz_if2 (pc := 36) (t := 89) (off := 53) (cc := .ne) (by decide) rfl
theorem g231_39 : rg Z d rx_m231 39 L S (rz_mk h ι, w) = rg Z d rx_m231 40 L (.int 0 :: S) (rz_mk h ι, w) := rz_s1 fun _ => rfl
theorem g231_40 : rg Z d rx_m231 40 [l0, l1, l2, some (.int z), l4] (.int x :: S) (rz_mk h ι, w) = rg Z d rx_m231 42 [l0, l1, l2, some (.int z), some (.int x)] S (rz_mk h ι, w) := rz_s1 fun _ => rfl
theorem g231_42 : rg Z d rx_m231 42 [l0, l1, l2, l3, some (.int x)] S (rz_mk h ι, w) = rg Z d rx_m231 44 [l0, l1, l2, l3, some (.int x)] (.int x :: S) (rz_mk h ι, w) := rz_s1 fun _ => rfl
theorem g231_44 : rg Z d rx_m231 44 [some (.ref a), l1, l2, l3, l4] S (rz_mk h ι, w) = rg Z d rx_m231 45 [some (.ref a), l1, l2, l3, l4] (.ref a :: S) (rz_mk h ι, w) := rz_s1 fun _ => rfl
theorem g231_45 (c : rz_fR h a 12 23) : rg Z d rx_m231 45 L (.ref a :: S) (rz_mk h ι, w) = rg Z d rx_m231 48 L (rz_rv h a 23 :: S) (rz_mk h ι, w) := rz_gR rfl (by decide) c
theorem g231_48 : rg Z d rx_m231 48 [l0, l1, l2, some (.int x), l4] S (rz_mk h ι, w) = rg Z d rx_m231 49 [l0, l1, l2, some (.int x), l4] (.int x :: S) (rz_mk h ι, w) := rz_s1 fun _ => rfl
theorem g231_49 (c : rz_ar h a 3) (hi : rz_ix x (rz_ln h a)) : rg Z d rx_m231 49 L (.int x :: .ref a :: S) (rz_mk h ι, w) = rg Z d rx_m231 50 L (rz_el h a x.toNatClampNeg :: S) (rz_mk h ι, w) := rz_aald (by decide) rfl c hi
theorem g231_50 : rg Z d rx_m231 50 L S (rz_mk h ι, w) = rg Z d rx_m231 51 L (.int 1 :: S) (rz_mk h ι, w) := rz_s1 fun _ => rfl
theorem g231_51 (c : rz_ar h a 0) (hi : rz_ix x (rz_ln h a)) : rg Z d rx_m231 51 L (.int x :: .ref a :: S) (rz_mk h ι, w) = rg Z d rx_m231 52 L (.int (ι a x.toNatClampNeg) :: S) (rz_mk h ι, w) := rz_iald rfl c hi
theorem g231_52 : rg Z d rx_m231 52 L (.int y :: .int x :: S) (rz_mk h ι, w) = if x < y then rg Z d rx_m231 55 L S (rz_mk h ι, w) else rg Z d rx_m231 86 L S (rz_mk h ι, w) := rz_if2 (pc := 52) (t := 86) (off := 34) (cc := .ge) (by decide) rfl
theorem g231_55 : rg Z d rx_m231 55 [some (.ref a), l1, l2, l3, l4] S (rz_mk h ι, w) = rg Z d rx_m231 56 [some (.ref a), l1, l2, l3, l4] (.ref a :: S) (rz_mk h ι, w) := rz_s1 fun _ => rfl
theorem g231_56 (c : rz_fI h a 12 34) : rg Z d rx_m231 56 L (.ref a :: S) (rz_mk h ι, w) = rg Z d rx_m231 59 L (.int (ι a 34) :: S) (rz_mk h ι, w) := rz_gI rfl (by decide) c
theorem g231_59 : rg Z d rx_m231 59 L S (rz_mk h ι, w) = rg Z d rx_m231 62 L (.int 200 :: S) (rz_mk h ι, w) := rz_s1 fun _ => rfl
theorem g231_62 : rg Z d rx_m231 62 L (.int y :: .int x :: S) (rz_mk h ι, w) = if x < y then rg Z d rx_m231 65 L S (rz_mk h ι, w) else rg Z d rx_m231 86 L S (rz_mk h ι, w) := rz_if2 (pc := 62) (t := 86) (off := 24) (cc := .ge) (by decide) rfl
theorem g231_65 : rg Z d rx_m231 65 [some (.ref a), l1, l2, l3, l4] S (rz_mk h ι, w) = rg Z d rx_m231 66 [some (.ref a), l1, l2, l3, l4] (.ref a :: S) (rz_mk h ι, w) := rz_s1 fun _ => rfl
theorem g231_66 : rg Z d rx_m231 66 [l0, l1, l2, some (.int x), l4] S (rz_mk h ι, w) = rg Z d rx_m231 67 [l0, l1, l2, some (.int x), l4] (.int x :: S) (rz_mk h ι, w) := rz_s1 fun _ => rfl
theorem g231_67 : rg Z d rx_m231 67 L S (rz_mk h ι, w) = rg Z d rx_m231 68 L (.int 1 :: S) (rz_mk h ι, w) := rz_s1 fun _ => rfl
theorem g231_68 : rg Z d rx_m231 68 L (.int y :: .int x :: S) (rz_mk h ι, w) = rg Z d rx_m231 69 L (.int (x + y) :: S) (rz_mk h ι, w) := rz_s1 fun _ => rfl
theorem g231_69 : rg Z d rx_m231 69 [some (.ref a), l1, l2, l3, l4] S (rz_mk h ι, w) = rg Z d rx_m231 70 [some (.ref a), l1, l2, l3, l4] (.ref a :: S) (rz_mk h ι, w) := rz_s1 fun _ => rfl
theorem g231_70 (c : rz_fR h a 12 23) : rg Z d rx_m231 70 L (.ref a :: S) (rz_mk h ι, w) = rg Z d rx_m231 73 L (rz_rv h a 23 :: S) (rz_mk h ι, w) := rz_gR rfl (by decide) c
theorem g231_73 : rg Z d rx_m231 73 [l0, l1, l2, some (.int x), l4] S (rz_mk h ι, w) = rg Z d rx_m231 74 [l0, l1, l2, some (.int x), l4] (.int x :: S) (rz_mk h ι, w) := rz_s1 fun _ => rfl
theorem g231_74 (c : rz_ar h a 3) (hi : rz_ix x (rz_ln h a)) : rg Z d rx_m231 74 L (.int x :: .ref a :: S) (rz_mk h ι, w) = rg Z d rx_m231 75 L (rz_el h a x.toNatClampNeg :: S) (rz_mk h ι, w) := rz_aald (by decide) rfl c hi
theorem g231_75 : rg Z d rx_m231 75 L S (rz_mk h ι, w) = rg Z d rx_m231 76 L (.int 4 :: S) (rz_mk h ι, w) := rz_s1 fun _ => rfl
theorem g231_76 (c : rz_ar h a 0) (hi : rz_ix x (rz_ln h a)) : rg Z d rx_m231 76 L (.int x :: .ref a :: S) (rz_mk h ι, w) = rg Z d rx_m231 77 L (.int (ι a x.toNatClampNeg) :: S) (rz_mk h ι, w) := rz_iald rfl c hi
theorem g231_77 (c : rz_oc h a 12) : rg Z d rx_m231 77 L (v2 :: v1 :: .ref a :: []) (rz_mk h ι, w) = rz_k true (rz_f Z d 231 [.ref a, v1, v2] (rz_mk h ι, w)) (fun v σ' => rg Z d rx_m231 80 L (v.toList ++ []) σ') := rz_cv (pc := 77) (n := 2) (mi := 231) (S := v2 :: v1 :: .ref a :: []) (rest := []) rfl rfl (Nat.le_of_ble_eq_true rfl) (Nat.le_of_ble_eq_true rfl) c
theorem g231_80 : rg Z d rx_m231 80 [l0, l1, l2, some (.int z), some (.int x)] S (rz_mk h ι, w) = rg Z d rx_m231 83 [l0, l1, l2, some (.int z), some (.int (x + 1))] S (rz_mk h ι, w) := rz_s1 fun _ => rfl
theorem g231_83 : rg Z d rx_m231 83 L S (rz_mk h ι, w) = rg Z d rx_m231 42 L S (rz_mk h ι, w) := rz_s1 fun _ => rfl
theorem g231_86 : rg Z d rx_m231 86 L S (rz_mk h ι, w) = rg Z d rx_m231 143 L S (rz_mk h ι, w) := rz_s1 fun _ => rfl
theorem g231_89 : rg Z d rx_m231 89 [some (.ref a), l1, l2, l3, l4] S (rz_mk h ι, w) = rg Z d rx_m231 90 [some (.ref a), l1, l2, l3, l4] (.ref a :: S) (rz_mk h ι, w) := rz_s1 fun _ => rfl
theorem g231_90 : rg Z d rx_m231 90 [some (.ref a), l1, l2, l3, l4] S (rz_mk h ι, w) = rg Z d rx_m231 91 [some (.ref a), l1, l2, l3, l4] (.ref a :: S) (rz_mk h ι, w) := rz_s1 fun _ => rfl
theorem g231_91 (c : rz_fR h a 12 25) : rg Z d rx_m231 91 L (.ref a :: S) (rz_mk h ι, w) = rg Z d rx_m231 94 L (rz_rv h a 25 :: S) (rz_mk h ι, w) := rz_gR rfl (by decide) c
theorem g231_94 : rg Z d rx_m231 94 [some (.ref a), l1, l2, l3, l4] S (rz_mk h ι, w) = rg Z d rx_m231 95 [some (.ref a), l1, l2, l3, l4] (.ref a :: S) (rz_mk h ι, w) := rz_s1 fun _ => rfl
theorem g231_95 (c : rz_fR h a 12 23) : rg Z d rx_m231 95 L (.ref a :: S) (rz_mk h ι, w) = rg Z d rx_m231 98 L (rz_rv h a 23 :: S) (rz_mk h ι, w) := rz_gR rfl (by decide) c
theorem g231_98 : rg Z d rx_m231 98 [l0, l1, l2, some (.int x), l4] S (rz_mk h ι, w) = rg Z d rx_m231 99 [l0, l1, l2, some (.int x), l4] (.int x :: S) (rz_mk h ι, w) := rz_s1 fun _ => rfl
theorem g231_99 (c : rz_ar h a 3) (hi : rz_ix x (rz_ln h a)) : rg Z d rx_m231 99 L (.int x :: .ref a :: S) (rz_mk h ι, w) = rg Z d rx_m231 100 L (rz_el h a x.toNatClampNeg :: S) (rz_mk h ι, w) := rz_aald (by decide) rfl c hi
theorem g231_100 (c : rz_oc h a 12) : rg Z d rx_m231 100 L (v2 :: v1 :: .ref a :: []) (rz_mk h ι, w) = rz_k true (rz_f Z d 230 [.ref a, v1, v2] (rz_mk h ι, w)) (fun v σ' => rg Z d rx_m231 103 L (v.toList ++ []) σ') := rz_cv (pc := 100) (n := 2) (mi := 230) (S := v2 :: v1 :: .ref a :: []) (rest := []) rfl rfl (Nat.le_of_ble_eq_true rfl) (Nat.le_of_ble_eq_true rfl) c
theorem g231_103 : rg Z d rx_m231 103 [l0, l1, l2, some (.int z), l4] (.int x :: S) (rz_mk h ι, w) = rg Z d rx_m231 105 [l0, l1, l2, some (.int z), some (.int x)] S (rz_mk h ι, w) := rz_s1 fun _ => rfl
theorem g231_105 : rg Z d rx_m231 105 [some (.ref a), l1, l2, l3, l4] S (rz_mk h ι, w) = rg Z d rx_m231 106 [some (.ref a), l1, l2, l3, l4] (.ref a :: S) (rz_mk h ι, w) := rz_s1 fun _ => rfl
theorem g231_106 : rg Z d rx_m231 106 L (.ref a :: S) (rz_mk h ι, w) = rg Z d rx_m231 107 L (.ref a :: .ref a :: S) (rz_mk h ι, w) := rz_s1 fun _ => rfl
theorem g231_107 (c : rz_fI h a 12 35) : rg Z d rx_m231 107 L (.ref a :: S) (rz_mk h ι, w) = rg Z d rx_m231 110 L (.int (ι a 35) :: S) (rz_mk h ι, w) := rz_gI rfl (by decide) c
theorem g231_110 : rg Z d rx_m231 110 [l0, l1, l2, l3, some (.int x)] S (rz_mk h ι, w) = rg Z d rx_m231 112 [l0, l1, l2, l3, some (.int x)] (.int x :: S) (rz_mk h ι, w) := rz_s1 fun _ => rfl
theorem g231_112 : rg Z d rx_m231 112 L (.int x :: S) (rz_mk h ι, w) = if x = 0 then rg Z d rx_m231 119 L S (rz_mk h ι, w) else rg Z d rx_m231 115 L S (rz_mk h ι, w) := rz_if1 (pc := 112) (t := 119) (off := 7) (cc := .eq) (by decide) rfl
theorem g231_115 : rg Z d rx_m231 115 L S (rz_mk h ι, w) = rg Z d rx_m231 116 L (.int 1 :: S) (rz_mk h ι, w) := rz_s1 fun _ => rfl
theorem g231_116 : rg Z d rx_m231 116 L S (rz_mk h ι, w) = rg Z d rx_m231 120 L S (rz_mk h ι, w) := rz_s1 fun _ => rfl
theorem g231_119 : rg Z d rx_m231 119 L S (rz_mk h ι, w) = rg Z d rx_m231 120 L (.int 0 :: S) (rz_mk h ι, w) := rz_s1 fun _ => rfl
theorem g231_120 : rg Z d rx_m231 120 L (.int y :: .int x :: S) (rz_mk h ι, w) = rg Z d rx_m231 121 L (.int (x + y) :: S) (rz_mk h ι, w) := rz_s1 fun _ => rfl
theorem g231_121 (c : rz_fI h a 12 35) (hz : Z.2.1 ≤ a) : rg Z d rx_m231 121 L (.int x :: .ref a :: S) (rz_mk h ι, w) = rg Z d rx_m231 124 L S (rz_mk h (rz_up ι a 35 x), w) := rz_pI rfl c hz
theorem g231_124 : rg Z d rx_m231 124 [some (.ref a), l1, l2, l3, l4] S (rz_mk h ι, w) = rg Z d rx_m231 125 [some (.ref a), l1, l2, l3, l4] (.ref a :: S) (rz_mk h ι, w) := rz_s1 fun _ => rfl
theorem g231_125 : rg Z d rx_m231 125 L (.ref a :: S) (rz_mk h ι, w) = rg Z d rx_m231 126 L (.ref a :: .ref a :: S) (rz_mk h ι, w) := rz_s1 fun _ => rfl
theorem g231_126 (c : rz_fI h a 12 31) : rg Z d rx_m231 126 L (.ref a :: S) (rz_mk h ι, w) = rg Z d rx_m231 129 L (.int (ι a 31) :: S) (rz_mk h ι, w) := rz_gI rfl (by decide) c
theorem g231_129 : rg Z d rx_m231 129 [l0, l1, l2, l3, some (.int x)] S (rz_mk h ι, w) = rg Z d rx_m231 131 [l0, l1, l2, l3, some (.int x)] (.int x :: S) (rz_mk h ι, w) := rz_s1 fun _ => rfl
theorem g231_131 : rg Z d rx_m231 131 L (.int x :: S) (rz_mk h ι, w) = if x = 0 then rg Z d rx_m231 138 L S (rz_mk h ι, w) else rg Z d rx_m231 134 L S (rz_mk h ι, w) := rz_if1 (pc := 131) (t := 138) (off := 7) (cc := .eq) (by decide) rfl
theorem g231_134 : rg Z d rx_m231 134 L S (rz_mk h ι, w) = rg Z d rx_m231 135 L (.int 0 :: S) (rz_mk h ι, w) := rz_s1 fun _ => rfl
theorem g231_135 : rg Z d rx_m231 135 L S (rz_mk h ι, w) = rg Z d rx_m231 139 L S (rz_mk h ι, w) := rz_s1 fun _ => rfl
theorem g231_138 : rg Z d rx_m231 138 L S (rz_mk h ι, w) = rg Z d rx_m231 139 L (.int 1 :: S) (rz_mk h ι, w) := rz_s1 fun _ => rfl
theorem g231_139 : rg Z d rx_m231 139 L (.int y :: .int x :: S) (rz_mk h ι, w) = rg Z d rx_m231 140 L (.int (x + y) :: S) (rz_mk h ι, w) := rz_s1 fun _ => rfl
theorem g231_140 (c : rz_fI h a 12 31) (hz : Z.2.1 ≤ a) : rg Z d rx_m231 140 L (.int x :: .ref a :: S) (rz_mk h ι, w) = rg Z d rx_m231 143 L S (rz_mk h (rz_up ι a 31 x), w) := rz_pI rfl c hz
theorem g231_143 : rg Z d rx_m231 143 [some (.ref a), l1, l2, l3, l4] S (rz_mk h ι, w) = rg Z d rx_m231 144 [some (.ref a), l1, l2, l3, l4] (.ref a :: S) (rz_mk h ι, w) := rz_s1 fun _ => rfl
theorem g231_144 (c : rz_fR h a 12 23) : rg Z d rx_m231 144 L (.ref a :: S) (rz_mk h ι, w) = rg Z d rx_m231 147 L (rz_rv h a 23 :: S) (rz_mk h ι, w) := rz_gR rfl (by decide) c
theorem g231_147 : rg Z d rx_m231 147 [l0, l1, l2, some (.int x), l4] S (rz_mk h ι, w) = rg Z d rx_m231 148 [l0, l1, l2, some (.int x), l4] (.int x :: S) (rz_mk h ι, w) := rz_s1 fun _ => rfl
theorem g231_148 (c : rz_ar h a 3) (hi : rz_ix x (rz_ln h a)) : rg Z d rx_m231 148 L (.int x :: .ref a :: S) (rz_mk h ι, w) = rg Z d rx_m231 149 L (rz_el h a x.toNatClampNeg :: S) (rz_mk h ι, w) := rz_aald (by decide) rfl c hi
theorem g231_149 : rg Z d rx_m231 149 L S (rz_mk h ι, w) = rg Z d rx_m231 150 L (.int 4 :: S) (rz_mk h ι, w) := rz_s1 fun _ => rfl
theorem g231_150 (c : rz_ar h a 0) (hi : rz_ix x (rz_ln h a)) : rg Z d rx_m231 150 L (.int x :: .ref a :: S) (rz_mk h ι, w) = rg Z d rx_m231 151 L (.int (ι a x.toNatClampNeg) :: S) (rz_mk h ι, w) := rz_iald rfl c hi
theorem g231_151 : rg Z d rx_m231 151 [l0, l1, some (.int z), l3, l4] (.int x :: S) (rz_mk h ι, w) = rg Z d rx_m231 152 [l0, l1, some (.int z), some (.int x), l4] S (rz_mk h ι, w) := rz_s1 fun _ => rfl
theorem g231_152 : rg Z d rx_m231 152 L S (rz_mk h ι, w) = rg Z d rx_m231 2 L S (rz_mk h ι, w) := rz_s1 fun _ => rfl
theorem g231_155 : rg Z d rx_m231 155 L [] (rz_mk h ι, w) = some (.inl none, (rz_mk h ι, w)) := rz_r1 fun _ => rfl
theorem e231 : rz_f Z (d + 1) 231 [.ref t0, .int s1, .int s2] σ = rg Z d rx_m231 0 [some (.ref t0), some (.int s1), some (.int s2), none, none] [] σ := rz_f_eq rfl (Nat.le_of_ble_eq_true rfl)
theorem g232_0 : rg Z d rx_m232 0 [some (.ref a), l1] S (rz_mk h ι, w) = rg Z d rx_m232 1 [some (.ref a), l1] (.ref a :: S) (rz_mk h ι, w) := rz_s1 fun _ => rfl
theorem g232_1 : rg Z d rx_m232 1 L S (rz_mk h ι, w) = rg Z d rx_m232 2 L (.int 0 :: S) (rz_mk h ι, w) := rz_s1 fun _ => rfl
theorem g232_2 (c : rz_fI h a 12 0) (hz : Z.2.1 ≤ a) : rg Z d rx_m232 2 L (.int x :: .ref a :: S) (rz_mk h ι, w) = rg Z d rx_m232 5 L S (rz_mk h (rz_up ι a 0 x), w) := rz_pI rfl c hz
theorem g232_5 : rg Z d rx_m232 5 [some (.ref a), l1] S (rz_mk h ι, w) = rg Z d rx_m232 6 [some (.ref a), l1] (.ref a :: S) (rz_mk h ι, w) := rz_s1 fun _ => rfl
theorem g232_6 : rg Z d rx_m232 6 [l0, some (.int x)] S (rz_mk h ι, w) = rg Z d rx_m232 7 [l0, some (.int x)] (.int x :: S) (rz_mk h ι, w) := rz_s1 fun _ => rfl
theorem g232_7 : rg Z d rx_m232 7 L S (rz_mk h ι, w) = rg Z d rx_m232 8 L (.int 0 :: S) (rz_mk h ι, w) := rz_s1 fun _ => rfl
theorem g232_8 : rg Z d rx_m232 8 [some (.ref a), l1] S (rz_mk h ι, w) = rg Z d rx_m232 9 [some (.ref a), l1] (.ref a :: S) (rz_mk h ι, w) := rz_s1 fun _ => rfl
theorem g232_9 (c : rz_fI h a 12 1) : rg Z d rx_m232 9 L (.ref a :: S) (rz_mk h ι, w) = rg Z d rx_m232 12 L (.int (ι a 1) :: S) (rz_mk h ι, w) := rz_gI rfl (by decide) c
theorem g232_12 : rg Z d rx_m232 12 L (v3 :: v2 :: v1 :: [.ref t0]) (rz_mk h ι, w) = rz_k true (rz_f Z d 175 [v1, v2, v3] (rz_mk h ι, w)) (fun v σ' => rg Z d rx_m232 15 L (v.toList ++ [.ref t0]) σ') := rz_cs (pc := 12) (n := 3) (mi := 175) (S := v3 :: v2 :: v1 :: [.ref t0]) (rest := [.ref t0]) rfl rfl (Nat.le_of_ble_eq_true rfl) (Nat.le_of_ble_eq_true rfl)
theorem g232_15 : rg Z d rx_m232 15 L (.int x :: S) (rz_mk h ι, w) = if x = 0 then rg Z d rx_m232 25 L S (rz_mk h ι, w) else rg Z d rx_m232 18 L S (rz_mk h ι, w) := rz_if1 (pc := 15) (t := 25) (off := 10) (cc := .eq) (by decide) rfl
theorem g232_18 : rg Z d rx_m232 18 [l0, some (.int x)] S (rz_mk h ι, w) = rg Z d rx_m232 19 [l0, some (.int x)] (.int x :: S) (rz_mk h ι, w) := rz_s1 fun _ => rfl
theorem g232_19 : rg Z d rx_m232 19 L S (rz_mk h ι, w) = rg Z d rx_m232 22 L (.int 150 :: S) (rz_mk h ι, w) := rz_s1 fun _ => rfl
theorem g232_22 : rg Z d rx_m232 22 L (.int y :: .int x :: S) (rz_mk h ι, w) = if y < x then rg Z d rx_m232 25 L S (rz_mk h ι, w) else rg Z d rx_m232 29 L S (rz_mk h ι, w) := rz_if2 (pc := 22) (t := 29) (off := 7) (cc := .le) (by decide) rfl
theorem g232_25 : rg Z d rx_m232 25 L S (rz_mk h ι, w) = rg Z d rx_m232 26 L (.int 1 :: S) (rz_mk h ι, w) := rz_s1 fun _ => rfl
theorem g232_26 : rg Z d rx_m232 26 L S (rz_mk h ι, w) = rg Z d rx_m232 30 L S (rz_mk h ι, w) := rz_s1 fun _ => rfl
theorem g232_29 : rg Z d rx_m232 29 L S (rz_mk h ι, w) = rg Z d rx_m232 30 L (.int 0 :: S) (rz_mk h ι, w) := rz_s1 fun _ => rfl
theorem g232_30 : rg Z d rx_m232 30 L S (rz_mk h ι, w) = rg Z d rx_m232 31 L (.int 1 :: S) (rz_mk h ι, w) := rz_s1 fun _ => rfl
theorem g232_31 : rg Z d rx_m232 31 L S (rz_mk h ι, w) = rg Z d rx_m232 32 L (.int 1 :: S) (rz_mk h ι, w) := rz_s1 fun _ => rfl
theorem g232_32 (c : rz_oc h a 12) : rg Z d rx_m232 32 L (v3 :: v2 :: v1 :: .ref a :: []) (rz_mk h ι, w) = rz_k true (rz_f Z d 174 [.ref a, v1, v2, v3] (rz_mk h ι, w)) (fun v σ' => rg Z d rx_m232 35 L (v.toList ++ []) σ') := rz_cv (pc := 32) (n := 3) (mi := 174) (S := v3 :: v2 :: v1 :: .ref a :: []) (rest := []) rfl rfl (Nat.le_of_ble_eq_true rfl) (Nat.le_of_ble_eq_true rfl) c
theorem g232_35 : rg Z d rx_m232 35 L (.int x :: S) (rz_mk h ι, w) = if x = 0 then rg Z d rx_m232 40 L S (rz_mk h ι, w) else rg Z d rx_m232 38 L S (rz_mk h ι, w) := rz_if1 (pc := 35) (t := 40) (off := 5) (cc := .eq) (by decide) rfl
theorem g232_38 : rg Z d rx_m232 38 L S (rz_mk h ι, w) = rg Z d rx_m232 39 L (.int 0 :: S) (rz_mk h ι, w) := rz_s1 fun _ => rfl
theorem g232_39 : rg Z d rx_m232 39 L [.int x] (rz_mk h ι, w) = some (.inl (some (.int x)), (rz_mk h ι, w)) := rz_reti rfl rfl rfl
theorem g232_40 : rg Z d rx_m232 40 [some (.ref a), l1] S (rz_mk h ι, w) = rg Z d rx_m232 41 [some (.ref a), l1] (.ref a :: S) (rz_mk h ι, w) := rz_s1 fun _ => rfl
theorem g232_41 (c : rz_fI h a 12 30) : rg Z d rx_m232 41 L (.ref a :: S) (rz_mk h ι, w) = rg Z d rx_m232 44 L (.int (ι a 30) :: S) (rz_mk h ι, w) := rz_gI rfl (by decide) c
theorem g232_44 : rg Z d rx_m232 44 L S (rz_mk h ι, w) = rg Z d rx_m232 46 L (.int 16 :: S) (rz_mk h ι, w) := rz_s1 fun _ => rfl
theorem g232_46 : rg Z d rx_m232 46 L (.int y :: .int x :: S) (rz_mk h ι, w) = if x = y then rg Z d rx_m232 49 L S (rz_mk h ι, w) else rg Z d rx_m232 62 L S (rz_mk h ι, w) := rz_if2 (pc := 46) (t := 62) (off := 16) (cc := .ne) (by decide) rfl
theorem g232_49 : rg Z d rx_m232 49 [some (.ref a), l1] S (rz_mk h ι, w) = rg Z d rx_m232 50 [some (.ref a), l1] (.ref a :: S) (rz_mk h ι, w) := rz_s1 fun _ => rfl
theorem g232_50 : rg Z d rx_m232 50 L S (rz_mk h ι, w) = rg Z d rx_m232 51 L (.int 0 :: S) (rz_mk h ι, w) := rz_s1 fun _ => rfl
theorem g232_51 (c : rz_fI h a 12 1) (hz : Z.2.1 ≤ a) : rg Z d rx_m232 51 L (.int x :: .ref a :: S) (rz_mk h ι, w) = rg Z d rx_m232 54 L S (rz_mk h (rz_up ι a 1 x), w) := rz_pI rfl c hz
theorem g232_54 : rg Z d rx_m232 54 [some (.ref a), l1] S (rz_mk h ι, w) = rg Z d rx_m232 55 [some (.ref a), l1] (.ref a :: S) (rz_mk h ι, w) := rz_s1 fun _ => rfl
theorem g232_55 : rg Z d rx_m232 55 L S (rz_mk h ι, w) = rg Z d rx_m232 56 L (.int (-1) :: S) (rz_mk h ι, w) := rz_s1 fun _ => rfl
theorem g232_56 (c : rz_fI h a 12 3) (hz : Z.2.1 ≤ a) : rg Z d rx_m232 56 L (.int x :: .ref a :: S) (rz_mk h ι, w) = rg Z d rx_m232 59 L S (rz_mk h (rz_up ι a 3 x), w) := rz_pI rfl c hz
theorem g232_59 : rg Z d rx_m232 59 L S (rz_mk h ι, w) = rg Z d rx_m232 61 L (.int (-20) :: S) (rz_mk h ι, w) := rz_s1 fun _ => rfl
theorem g232_61 : rg Z d rx_m232 61 L [.int x] (rz_mk h ι, w) = some (.inl (some (.int x)), (rz_mk h ι, w)) := rz_reti rfl rfl rfl
theorem g232_62 : rg Z d rx_m232 62 [some (.ref a), l1] S (rz_mk h ι, w) = rg Z d rx_m232 63 [some (.ref a), l1] (.ref a :: S) (rz_mk h ι, w) := rz_s1 fun _ => rfl
theorem g232_63 : rg Z d rx_m232 63 [l0, some (.int x)] S (rz_mk h ι, w) = rg Z d rx_m232 64 [l0, some (.int x)] (.int x :: S) (rz_mk h ι, w) := rz_s1 fun _ => rfl
theorem g232_64 (c : rz_oc h a 12) : rg Z d rx_m232 64 L (v1 :: .ref a :: []) (rz_mk h ι, w) = rz_k true (rz_f Z d 193 [.ref a, v1] (rz_mk h ι, w)) (fun v σ' => rg Z d rx_m232 67 L (v.toList ++ []) σ') := rz_cv (pc := 64) (n := 1) (mi := 193) (S := v1 :: .ref a :: []) (rest := []) rfl rfl (Nat.le_of_ble_eq_true rfl) (Nat.le_of_ble_eq_true rfl) c
theorem g232_67 : rg Z d rx_m232 67 [some (.ref a), l1] S (rz_mk h ι, w) = rg Z d rx_m232 68 [some (.ref a), l1] (.ref a :: S) (rz_mk h ι, w) := rz_s1 fun _ => rfl
theorem g232_68 : rg Z d rx_m232 68 L S (rz_mk h ι, w) = rg Z d rx_m232 69 L (.int 0 :: S) (rz_mk h ι, w) := rz_s1 fun _ => rfl
theorem g232_69 (c : rz_fI h a 12 24) (hz : Z.2.1 ≤ a) : rg Z d rx_m232 69 L (.int x :: .ref a :: S) (rz_mk h ι, w) = rg Z d rx_m232 72 L S (rz_mk h (rz_up ι a 24 x), w) := rz_pI rfl c hz
theorem g232_72 : rg Z d rx_m232 72 [some (.ref a), l1] S (rz_mk h ι, w) = rg Z d rx_m232 73 [some (.ref a), l1] (.ref a :: S) (rz_mk h ι, w) := rz_s1 fun _ => rfl
theorem g232_73 (c : rz_fI h a 12 5) : rg Z d rx_m232 73 L (.ref a :: S) (rz_mk h ι, w) = rg Z d rx_m232 76 L (.int (ι a 5) :: S) (rz_mk h ι, w) := rz_gI rfl (by decide) c
theorem g232_76 : rg Z d rx_m232 76 L (.int x :: S) (rz_mk h ι, w) = if x = 0 then rg Z d rx_m232 79 L S (rz_mk h ι, w) else rg Z d rx_m232 101 L S (rz_mk h ι, w) := rz_if1 (pc := 76) (t := 101) (off := 25) (cc := .ne) (by decide) rfl
theorem g232_79 : rg Z d rx_m232 79 [some (.ref a), l1] S (rz_mk h ι, w) = rg Z d rx_m232 80 [some (.ref a), l1] (.ref a :: S) (rz_mk h ι, w) := rz_s1 fun _ => rfl
theorem g232_80 (c : rz_fI h a 12 4) : rg Z d rx_m232 80 L (.ref a :: S) (rz_mk h ι, w) = rg Z d rx_m232 83 L (.int (ι a 4) :: S) (rz_mk h ι, w) := rz_gI rfl (by decide) c
theorem g232_83 : rg Z d rx_m232 83 [some (.ref a), l1] S (rz_mk h ι, w) = rg Z d rx_m232 84 [some (.ref a), l1] (.ref a :: S) (rz_mk h ι, w) := rz_s1 fun _ => rfl
theorem g232_84 (c : rz_fI h a 12 2) : rg Z d rx_m232 84 L (.ref a :: S) (rz_mk h ι, w) = rg Z d rx_m232 87 L (.int (ι a 2) :: S) (rz_mk h ι, w) := rz_gI rfl (by decide) c
theorem g232_87 : rg Z d rx_m232 87 L (.int y :: .int x :: S) (rz_mk h ι, w) = if x < y then rg Z d rx_m232 90 L S (rz_mk h ι, w) else rg Z d rx_m232 101 L S (rz_mk h ι, w) := rz_if2 (pc := 87) (t := 101) (off := 14) (cc := .ge) (by decide) rfl
theorem g232_90 : rg Z d rx_m232 90 [some (.ref a), l1] S (rz_mk h ι, w) = rg Z d rx_m232 91 [some (.ref a), l1] (.ref a :: S) (rz_mk h ι, w) := rz_s1 fun _ => rfl
theorem g232_91 (c : rz_oc h a 12) : rg Z d rx_m232 91 L (.ref a :: []) (rz_mk h ι, w) = rz_k true (rz_f Z d 211 [.ref a] (rz_mk h ι, w)) (fun v σ' => rg Z d rx_m232 94 L (v.toList ++ []) σ') := rz_cv (pc := 91) (n := 0) (mi := 211) (S := .ref a :: []) (rest := []) rfl rfl (Nat.le_of_ble_eq_true rfl) (Nat.le_of_ble_eq_true rfl) c
theorem g232_94 : rg Z d rx_m232 94 [some (.ref a), l1] S (rz_mk h ι, w) = rg Z d rx_m232 95 [some (.ref a), l1] (.ref a :: S) (rz_mk h ι, w) := rz_s1 fun _ => rfl
theorem g232_95 (c : rz_oc h a 12) : rg Z d rx_m232 95 L (.ref a :: []) (rz_mk h ι, w) = rz_k true (rz_f Z d 181 [.ref a] (rz_mk h ι, w)) (fun v σ' => rg Z d rx_m232 98 L (v.toList ++ []) σ') := rz_cv (pc := 95) (n := 0) (mi := 181) (S := .ref a :: []) (rest := []) rfl rfl (Nat.le_of_ble_eq_true rfl) (Nat.le_of_ble_eq_true rfl) c
theorem g232_98 : rg Z d rx_m232 98 L S (rz_mk h ι, w) = rg Z d rx_m232 72 L S (rz_mk h ι, w) := rz_s1 fun _ => rfl
theorem g232_101 : rg Z d rx_m232 101 [some (.ref a), l1] S (rz_mk h ι, w) = rg Z d rx_m232 102 [some (.ref a), l1] (.ref a :: S) (rz_mk h ι, w) := rz_s1 fun _ => rfl
theorem g232_102 (c : rz_fI h a 12 5) : rg Z d rx_m232 102 L (.ref a :: S) (rz_mk h ι, w) = rg Z d rx_m232 105 L (.int (ι a 5) :: S) (rz_mk h ι, w) := rz_gI rfl (by decide) c
theorem g232_105 : rg Z d rx_m232 105 L (.int x :: S) (rz_mk h ι, w) = if x = 0 then rg Z d rx_m232 113 L S (rz_mk h ι, w) else rg Z d rx_m232 108 L S (rz_mk h ι, w) := rz_if1 (pc := 105) (t := 113) (off := 8) (cc := .eq) (by decide) rfl
theorem g232_108 : rg Z d rx_m232 108 [some (.ref a), l1] S (rz_mk h ι, w) = rg Z d rx_m232 109 [some (.ref a), l1] (.ref a :: S) (rz_mk h ι, w) := rz_s1 fun _ => rfl
theorem g232_109 (c : rz_oc h a 12) : rg Z d rx_m232 109 L (.ref a :: []) (rz_mk h ι, w) = rz_k true (rz_f Z d 194 [.ref a] (rz_mk h ι, w)) (fun v σ' => rg Z d rx_m232 112 L (v.toList ++ []) σ') := rz_cv (pc := 109) (n := 0) (mi := 194) (S := .ref a :: []) (rest := []) rfl rfl (Nat.le_of_ble_eq_true rfl) (Nat.le_of_ble_eq_true rfl) c
theorem g232_112 : rg Z d rx_m232 112 L [.int x] (rz_mk h ι, w) = some (.inl (some (.int x)), (rz_mk h ι, w)) := rz_reti rfl rfl rfl
theorem g232_113 : rg Z d rx_m232 113 [some (.ref a), l1] S (rz_mk h ι, w) = rg Z d rx_m232 114 [some (.ref a), l1] (.ref a :: S) (rz_mk h ι, w) := rz_s1 fun _ => rfl
theorem g232_114 : rg Z d rx_m232 114 L S (rz_mk h ι, w) = rg Z d rx_m232 115 L (.int (-1) :: S) (rz_mk h ι, w) := rz_s1 fun _ => rfl
theorem g232_115 (c : rz_fI h a 12 3) (hz : Z.2.1 ≤ a) : rg Z d rx_m232 115 L (.int x :: .ref a :: S) (rz_mk h ι, w) = rg Z d rx_m232 118 L S (rz_mk h (rz_up ι a 3 x), w) := rz_pI rfl c hz
theorem g232_118 : rg Z d rx_m232 118 [some (.ref a), l1] S (rz_mk h ι, w) = rg Z d rx_m232 119 [some (.ref a), l1] (.ref a :: S) (rz_mk h ι, w) := rz_s1 fun _ => rfl
theorem g232_119 (c : rz_fR h a 12 25) : rg Z d rx_m232 119 L (.ref a :: S) (rz_mk h ι, w) = rg Z d rx_m232 122 L (rz_rv h a 25 :: S) (rz_mk h ι, w) := rz_gR rfl (by decide) c
theorem g232_122 : rg Z d rx_m232 122 [some (.ref a), l1] S (rz_mk h ι, w) = rg Z d rx_m232 123 [some (.ref a), l1] (.ref a :: S) (rz_mk h ι, w) := rz_s1 fun _ => rfl
theorem g232_123 (c : rz_fR h a 12 27) : rg Z d rx_m232 123 L (.ref a :: S) (rz_mk h ι, w) = rg Z d rx_m232 126 L (rz_rv h a 27 :: S) (rz_mk h ι, w) := rz_gR rfl (by decide) c
theorem g232_126 : rg Z d rx_m232 126 [some (.ref a), l1] S (rz_mk h ι, w) = rg Z d rx_m232 127 [some (.ref a), l1] (.ref a :: S) (rz_mk h ι, w) := rz_s1 fun _ => rfl
theorem g232_127 (c : rz_fI h a 12 30) : rg Z d rx_m232 127 L (.ref a :: S) (rz_mk h ι, w) = rg Z d rx_m232 130 L (.int (ι a 30) :: S) (rz_mk h ι, w) := rz_gI rfl (by decide) c
theorem g232_130 (c : rz_ar h a 3) (hi : rz_ix x (rz_ln h a)) : rg Z d rx_m232 130 L (.int x :: .ref a :: S) (rz_mk h ι, w) = rg Z d rx_m232 131 L (rz_el h a x.toNatClampNeg :: S) (rz_mk h ι, w) := rz_aald (by decide) rfl c hi
theorem g232_131 : rg Z d rx_m232 131 L (v2 :: v1 :: []) (rz_mk h ι, w) = rz_k true (rz_f Z d 199 [v1, v2] (rz_mk h ι, w)) (fun v σ' => rg Z d rx_m232 134 L (v.toList ++ []) σ') := rz_cs (pc := 131) (n := 2) (mi := 199) (S := v2 :: v1 :: []) (rest := []) rfl rfl (Nat.le_of_ble_eq_true rfl) (Nat.le_of_ble_eq_true rfl)
theorem g232_134 : rg Z d rx_m232 134 [some (.ref a), l1] S (rz_mk h ι, w) = rg Z d rx_m232 135 [some (.ref a), l1] (.ref a :: S) (rz_mk h ι, w) := rz_s1 fun _ => rfl
theorem g232_135 : rg Z d rx_m232 135 L (.ref a :: S) (rz_mk h ι, w) = rg Z d rx_m232 136 L (.ref a :: .ref a :: S) (rz_mk h ι, w) := rz_s1 fun _ => rfl
theorem g232_136 (c : rz_fI h a 12 30) : rg Z d rx_m232 136 L (.ref a :: S) (rz_mk h ι, w) = rg Z d rx_m232 139 L (.int (ι a 30) :: S) (rz_mk h ι, w) := rz_gI rfl (by decide) c
theorem g232_139 : rg Z d rx_m232 139 L S (rz_mk h ι, w) = rg Z d rx_m232 140 L (.int 1 :: S) (rz_mk h ι, w) := rz_s1 fun _ => rfl
theorem g232_140 : rg Z d rx_m232 140 L (.int y :: .int x :: S) (rz_mk h ι, w) = rg Z d rx_m232 141 L (.int (x + y) :: S) (rz_mk h ι, w) := rz_s1 fun _ => rfl
theorem g232_141 (c : rz_fI h a 12 30) (hz : Z.2.1 ≤ a) : rg Z d rx_m232 141 L (.int x :: .ref a :: S) (rz_mk h ι, w) = rg Z d rx_m232 144 L S (rz_mk h (rz_up ι a 30 x), w) := rz_pI rfl c hz
theorem g232_144 : rg Z d rx_m232 144 [some (.ref a), l1] S (rz_mk h ι, w) = rg Z d rx_m232 145 [some (.ref a), l1] (.ref a :: S) (rz_mk h ι, w) := rz_s1 fun _ => rfl
theorem g232_145 : rg Z d rx_m232 145 L S (rz_mk h ι, w) = rg Z d rx_m232 146 L (.int 0 :: S) (rz_mk h ι, w) := rz_s1 fun _ => rfl
theorem g232_146 (c : rz_fI h a 12 34) (hz : Z.2.1 ≤ a) : rg Z d rx_m232 146 L (.int x :: .ref a :: S) (rz_mk h ι, w) = rg Z d rx_m232 149 L S (rz_mk h (rz_up ι a 34 x), w) := rz_pI rfl c hz
theorem g232_149 : rg Z d rx_m232 149 [some (.ref a), l1] S (rz_mk h ι, w) = rg Z d rx_m232 150 [some (.ref a), l1] (.ref a :: S) (rz_mk h ι, w) := rz_s1 fun _ => rfl
theorem g232_150 : rg Z d rx_m232 150 L S (rz_mk h ι, w) = rg Z d rx_m232 151 L (.int 0 :: S) (rz_mk h ι, w) := rz_s1 fun _ => rfl
theorem g232_151 (c : rz_fI h a 12 35) (hz : Z.2.1 ≤ a) : rg Z d rx_m232 151 L (.int x :: .ref a :: S) (rz_mk h ι, w) = rg Z d rx_m232 154 L S (rz_mk h (rz_up ι a 35 x), w) := rz_pI rfl c hz
theorem g232_154 : rg Z d rx_m232 154 [some (.ref a), l1] S (rz_mk h ι, w) = rg Z d rx_m232 155 [some (.ref a), l1] (.ref a :: S) (rz_mk h ι, w) := rz_s1 fun _ => rfl
theorem g232_155 : rg Z d rx_m232 155 L S (rz_mk h ι, w) = rg Z d rx_m232 156 L (.int 0 :: S) (rz_mk h ι, w) := rz_s1 fun _ => rfl
theorem g232_156 (c : rz_fI h a 12 31) (hz : Z.2.1 ≤ a) : rg Z d rx_m232 156 L (.int x :: .ref a :: S) (rz_mk h ι, w) = rg Z d rx_m232 159 L S (rz_mk h (rz_up ι a 31 x), w) := rz_pI rfl c hz
theorem g232_159 : rg Z d rx_m232 159 [some (.ref a), l1] S (rz_mk h ι, w) = rg Z d rx_m232 160 [some (.ref a), l1] (.ref a :: S) (rz_mk h ι, w) := rz_s1 fun _ => rfl
theorem g232_160 : rg Z d rx_m232 160 L S (rz_mk h ι, w) = rg Z d rx_m232 161 L (.int 0 :: S) (rz_mk h ι, w) := rz_s1 fun _ => rfl
theorem g232_161 : rg Z d rx_m232 161 [some (.ref a), l1] S (rz_mk h ι, w) = rg Z d rx_m232 162 [some (.ref a), l1] (.ref a :: S) (rz_mk h ι, w) := rz_s1 fun _ => rfl
theorem g232_162 (c : rz_fI h a 12 24) : rg Z d rx_m232 162 L (.ref a :: S) (rz_mk h ι, w) = rg Z d rx_m232 165 L (.int (ι a 24) :: S) (rz_mk h ι, w) := rz_gI rfl (by decide) c
theorem g232_165 (c : rz_oc h a 12) : rg Z d rx_m232 165 L (v2 :: v1 :: .ref a :: []) (rz_mk h ι, w) = rz_k true (rz_f Z d 231 [.ref a, v1, v2] (rz_mk h ι, w)) (fun v σ' => rg Z d rx_m232 168 L (v.toList ++ []) σ') := rz_cv (pc := 165) (n := 2) (mi := 231) (S := v2 :: v1 :: .ref a :: []) (rest := []) rfl rfl (Nat.le_of_ble_eq_true rfl) (Nat.le_of_ble_eq_true rfl) c
theorem g232_168 : rg Z d rx_m232 168 [some (.ref a), l1] S (rz_mk h ι, w) = rg Z d rx_m232 169 [some (.ref a), l1] (.ref a :: S) (rz_mk h ι, w) := rz_s1 fun _ => rfl
theorem g232_169 (c : rz_fI h a 12 35) : rg Z d rx_m232 169 L (.ref a :: S) (rz_mk h ι, w) = rg Z d rx_m232 172 L (.int (ι a 35) :: S) (rz_mk h ι, w) := rz_gI rfl (by decide) c
theorem g232_172 : rg Z d rx_m232 172 L [.int x] (rz_mk h ι, w) = some (.inl (some (.int x)), (rz_mk h ι, w)) := rz_reti rfl rfl rfl
theorem e232 : rz_f Z (d + 1) 232 [.ref t0, .int s1] σ = rg Z d rx_m232 0 [some (.ref t0), some (.int s1)] [] σ := rz_f_eq rfl (Nat.le_of_ble_eq_true rfl)
theorem g233_0 : rg Z d rx_m233 0 [some (.ref a)] S (rz_mk h ι, w) = rg Z d rx_m233 1 [some (.ref a)] (.ref a :: S) (rz_mk h ι, w) := rz_s1 fun _ => rfl
theorem g233_1 : rg Z d rx_m233 1 L S (rz_mk h ι, w) = rg Z d rx_m233 2 L (.int 0 :: S) (rz_mk h ι, w) := rz_s1 fun _ => rfl
theorem g233_2 (c : rz_fI h a 12 0) (hz : Z.2.1 ≤ a) : rg Z d rx_m233 2 L (.int x :: .ref a :: S) (rz_mk h ι, w) = rg Z d rx_m233 5 L S (rz_mk h (rz_up ι a 0 x), w) := rz_pI rfl c hz
theorem g233_5 : rg Z d rx_m233 5 [some (.ref a)] S (rz_mk h ι, w) = rg Z d rx_m233 6 [some (.ref a)] (.ref a :: S) (rz_mk h ι, w) := rz_s1 fun _ => rfl
theorem g233_6 (c : rz_fI h a 12 30) : rg Z d rx_m233 6 L (.ref a :: S) (rz_mk h ι, w) = rg Z d rx_m233 9 L (.int (ι a 30) :: S) (rz_mk h ι, w) := rz_gI rfl (by decide) c
theorem g233_9 : rg Z d rx_m233 9 L (.int x :: S) (rz_mk h ι, w) = if x = 0 then rg Z d rx_m233 12 L S (rz_mk h ι, w) else rg Z d rx_m233 14 L S (rz_mk h ι, w) := rz_if1 (pc := 9) (t := 14) (off := 5) (cc := .ne) (by decide) rfl
theorem g233_12 : rg Z d rx_m233 12 L S (rz_mk h ι, w) = rg Z d rx_m233 13 L (.int (-1) :: S) (rz_mk h ι, w) := rz_s1 fun _ => rfl
theorem g233_13 : rg Z d rx_m233 13 L [.int x] (rz_mk h ι, w) = some (.inl (some (.int x)), (rz_mk h ι, w)) := rz_reti rfl rfl rfl
theorem g233_14 : rg Z d rx_m233 14 [some (.ref a)] S (rz_mk h ι, w) = rg Z d rx_m233 15 [some (.ref a)] (.ref a :: S) (rz_mk h ι, w) := rz_s1 fun _ => rfl
theorem g233_15 : rg Z d rx_m233 15 L (.ref a :: S) (rz_mk h ι, w) = rg Z d rx_m233 16 L (.ref a :: .ref a :: S) (rz_mk h ι, w) := rz_s1 fun _ => rfl
theorem g233_16 (c : rz_fI h a 12 30) : rg Z d rx_m233 16 L (.ref a :: S) (rz_mk h ι, w) = rg Z d rx_m233 19 L (.int (ι a 30) :: S) (rz_mk h ι, w) := rz_gI rfl (by decide) c
theorem g233_19 : rg Z d rx_m233 19 L S (rz_mk h ι, w) = rg Z d rx_m233 20 L (.int 1 :: S) (rz_mk h ι, w) := rz_s1 fun _ => rfl
theorem g233_20 : rg Z d rx_m233 20 L (.int y :: .int x :: S) (rz_mk h ι, w) = rg Z d rx_m233 21 L (.int (x - y) :: S) (rz_mk h ι, w) := rz_s1 fun _ => rfl
theorem g233_21 (c : rz_fI h a 12 30) (hz : Z.2.1 ≤ a) : rg Z d rx_m233 21 L (.int x :: .ref a :: S) (rz_mk h ι, w) = rg Z d rx_m233 24 L S (rz_mk h (rz_up ι a 30 x), w) := rz_pI rfl c hz
theorem g233_24 : rg Z d rx_m233 24 [some (.ref a)] S (rz_mk h ι, w) = rg Z d rx_m233 25 [some (.ref a)] (.ref a :: S) (rz_mk h ι, w) := rz_s1 fun _ => rfl
theorem g233_25 (c : rz_fR h a 12 27) : rg Z d rx_m233 25 L (.ref a :: S) (rz_mk h ι, w) = rg Z d rx_m233 28 L (rz_rv h a 27 :: S) (rz_mk h ι, w) := rz_gR rfl (by decide) c
theorem g233_28 : rg Z d rx_m233 28 [some (.ref a)] S (rz_mk h ι, w) = rg Z d rx_m233 29 [some (.ref a)] (.ref a :: S) (rz_mk h ι, w) := rz_s1 fun _ => rfl
theorem g233_29 (c : rz_fI h a 12 30) : rg Z d rx_m233 29 L (.ref a :: S) (rz_mk h ι, w) = rg Z d rx_m233 32 L (.int (ι a 30) :: S) (rz_mk h ι, w) := rz_gI rfl (by decide) c
theorem g233_32 (c : rz_ar h a 3) (hi : rz_ix x (rz_ln h a)) : rg Z d rx_m233 32 L (.int x :: .ref a :: S) (rz_mk h ι, w) = rg Z d rx_m233 33 L (rz_el h a x.toNatClampNeg :: S) (rz_mk h ι, w) := rz_aald (by decide) rfl c hi
theorem g233_33 : rg Z d rx_m233 33 [some (.ref a)] S (rz_mk h ι, w) = rg Z d rx_m233 34 [some (.ref a)] (.ref a :: S) (rz_mk h ι, w) := rz_s1 fun _ => rfl
theorem g233_34 (c : rz_fR h a 12 25) : rg Z d rx_m233 34 L (.ref a :: S) (rz_mk h ι, w) = rg Z d rx_m233 37 L (rz_rv h a 25 :: S) (rz_mk h ι, w) := rz_gR rfl (by decide) c
theorem g233_37 : rg Z d rx_m233 37 L (v2 :: v1 :: []) (rz_mk h ι, w) = rz_k true (rz_f Z d 199 [v1, v2] (rz_mk h ι, w)) (fun v σ' => rg Z d rx_m233 40 L (v.toList ++ []) σ') := rz_cs (pc := 37) (n := 2) (mi := 199) (S := v2 :: v1 :: []) (rest := []) rfl rfl (Nat.le_of_ble_eq_true rfl) (Nat.le_of_ble_eq_true rfl)
theorem g233_40 : rg Z d rx_m233 40 [some (.ref a)] S (rz_mk h ι, w) = rg Z d rx_m233 41 [some (.ref a)] (.ref a :: S) (rz_mk h ι, w) := rz_s1 fun _ => rfl
theorem g233_41 : rg Z d rx_m233 41 L S (rz_mk h ι, w) = rg Z d rx_m233 42 L (.int 0 :: S) (rz_mk h ι, w) := rz_s1 fun _ => rfl
theorem g233_42 (c : rz_fI h a 12 31) (hz : Z.2.1 ≤ a) : rg Z d rx_m233 42 L (.int x :: .ref a :: S) (rz_mk h ι, w) = rg Z d rx_m233 45 L S (rz_mk h (rz_up ι a 31 x), w) := rz_pI rfl c hz
theorem g233_45 : rg Z d rx_m233 45 [some (.ref a)] S (rz_mk h ι, w) = rg Z d rx_m233 46 [some (.ref a)] (.ref a :: S) (rz_mk h ι, w) := rz_s1 fun _ => rfl
theorem g233_46 (c : rz_fI h a 12 30) : rg Z d rx_m233 46 L (.ref a :: S) (rz_mk h ι, w) = rg Z d rx_m233 49 L (.int (ι a 30) :: S) (rz_mk h ι, w) := rz_gI rfl (by decide) c
theorem g233_49 : rg Z d rx_m233 49 L [.int x] (rz_mk h ι, w) = some (.inl (some (.int x)), (rz_mk h ι, w)) := rz_reti rfl rfl rfl
theorem e233 : rz_f Z (d + 1) 233 [.ref t0] σ = rg Z d rx_m233 0 [some (.ref t0)] [] σ := rz_f_eq rfl (Nat.le_of_ble_eq_true rfl)
theorem g234_0 : rg Z d rx_m234 0 L S (rz_mk h ι, w) = rg Z d rx_m234 1 L (.int 0 :: S) (rz_mk h ι, w) := rz_s1 fun _ => rfl
theorem g234_1 : rg Z d rx_m234 1 [some (.int z), l1, l2] (.int x :: S) (rz_mk h ι, w) = rg Z d rx_m234 2 [some (.int z), some (.int x), l2] S (rz_mk h ι, w) := rz_s1 fun _ => rfl
theorem g234_2 : rg Z d rx_m234 2 L S (rz_mk h ι, w) = rg Z d rx_m234 3 L (.int 0 :: S) (rz_mk h ι, w) := rz_s1 fun _ => rfl
theorem g234_3 : rg Z d rx_m234 3 [l0, some (.int z), l2] (.int x :: S) (rz_mk h ι, w) = rg Z d rx_m234 4 [l0, some (.int z), some (.int x)] S (rz_mk h ι, w) := rz_s1 fun _ => rfl
theorem g234_4 : rg Z d rx_m234 4 [l0, l1, some (.int x)] S (rz_mk h ι, w) = rg Z d rx_m234 5 [l0, l1, some (.int x)] (.int x :: S) (rz_mk h ι, w) := rz_s1 fun _ => rfl
theorem g234_5 : rg Z d rx_m234 5 L S (rz_mk h ι, w) = rg Z d rx_m234 7 L (.int 8 :: S) (rz_mk h ι, w) := rz_s1 fun _ => rfl
theorem g234_7 : rg Z d rx_m234 7 L (.int y :: .int x :: S) (rz_mk h ι, w) = if x < y then rg Z d rx_m234 10 L S (rz_mk h ι, w) else rg Z d rx_m234 24 L S (rz_mk h ι, w) := rz_if2 (pc := 7) (t := 24) (off := 17) (cc := .ge) (by decide) rfl
theorem g234_10 : rg Z d rx_m234 10 [l0, some (.int x), l2] S (rz_mk h ι, w) = rg Z d rx_m234 11 [l0, some (.int x), l2] (.int x :: S) (rz_mk h ι, w) := rz_s1 fun _ => rfl
theorem g234_11 : rg Z d rx_m234 11 [some (.int x), l1, l2] S (rz_mk h ι, w) = rg Z d rx_m234 12 [some (.int x), l1, l2] (.int x :: S) (rz_mk h ι, w) := rz_s1 fun _ => rfl
theorem g234_12 : rg Z d rx_m234 12 [l0, l1, some (.int x)] S (rz_mk h ι, w) = rg Z d rx_m234 13 [l0, l1, some (.int x)] (.int x :: S) (rz_mk h ι, w) := rz_s1 fun _ => rfl
theorem g234_13 : rg Z d rx_m234 13 L (.int y :: .int x :: S) (rz_mk h ι, w) = rg Z d rx_m234 14 L (.int (x >>> (y &&& 31)) :: S) (rz_mk h ι, w) := rz_s1 fun _ => rfl
theorem g234_14 : rg Z d rx_m234 14 L S (rz_mk h ι, w) = rg Z d rx_m234 15 L (.int 1 :: S) (rz_mk h ι, w) := rz_s1 fun _ => rfl
theorem g234_15 : rg Z d rx_m234 15 L (.int y :: .int x :: S) (rz_mk h ι, w) = rg Z d rx_m234 16 L (.int (x &&& y) :: S) (rz_mk h ι, w) := rz_s1 fun _ => rfl
theorem g234_16 : rg Z d rx_m234 16 L (.int y :: .int x :: S) (rz_mk h ι, w) = rg Z d rx_m234 17 L (.int (x + y) :: S) (rz_mk h ι, w) := rz_s1 fun _ => rfl
theorem g234_17 : rg Z d rx_m234 17 [some (.int z), l1, l2] (.int x :: S) (rz_mk h ι, w) = rg Z d rx_m234 18 [some (.int z), some (.int x), l2] S (rz_mk h ι, w) := rz_s1 fun _ => rfl
theorem g234_18 : rg Z d rx_m234 18 [l0, some (.int z), some (.int x)] S (rz_mk h ι, w) = rg Z d rx_m234 21 [l0, some (.int z), some (.int (x + 1))] S (rz_mk h ι, w) := rz_s1 fun _ => rfl
theorem g234_21 : rg Z d rx_m234 21 L S (rz_mk h ι, w) = rg Z d rx_m234 4 L S (rz_mk h ι, w) := rz_s1 fun _ => rfl
theorem g234_24 : rg Z d rx_m234 24 [l0, some (.int x), l2] S (rz_mk h ι, w) = rg Z d rx_m234 25 [l0, some (.int x), l2] (.int x :: S) (rz_mk h ι, w) := rz_s1 fun _ => rfl
theorem g234_25 : rg Z d rx_m234 25 L [.int x] (rz_mk h ι, w) = some (.inl (some (.int x)), (rz_mk h ι, w)) := rz_reti rfl rfl rfl
theorem e234 : rz_f Z (d + 1) 234 [.int s0] σ = rg Z d rx_m234 0 [some (.int s0), none, none] [] σ := rz_f_eq rfl (Nat.le_of_ble_eq_true rfl)
theorem g235_0 : rg Z d rx_m235 0 [some (.ref a), l1, l2, l3] S (rz_mk h ι, w) = rg Z d rx_m235 1 [some (.ref a), l1, l2, l3] (.ref a :: S) (rz_mk h ι, w) := rz_s1 fun _ => rfl
theorem g235_1 : rg Z d rx_m235 1 L S (rz_mk h ι, w) = rg Z d rx_m235 2 L (.int 0 :: S) (rz_mk h ι, w) := rz_s1 fun _ => rfl
theorem g235_2 (c : rz_fI h a 12 0) (hz : Z.2.1 ≤ a) : rg Z d rx_m235 2 L (.int x :: .ref a :: S) (rz_mk h ι, w) = rg Z d rx_m235 5 L S (rz_mk h (rz_up ι a 0 x), w) := rz_pI rfl c hz
theorem g235_5 : rg Z d rx_m235 5 [some (.ref a), l1, l2, l3] S (rz_mk h ι, w) = rg Z d rx_m235 6 [some (.ref a), l1, l2, l3] (.ref a :: S) (rz_mk h ι, w) := rz_s1 fun _ => rfl
theorem g235_6 : rg Z d rx_m235 6 [l0, some (.int x), l2, l3] S (rz_mk h ι, w) = rg Z d rx_m235 7 [l0, some (.int x), l2, l3] (.int x :: S) (rz_mk h ι, w) := rz_s1 fun _ => rfl
theorem g235_7 : rg Z d rx_m235 7 L S (rz_mk h ι, w) = rg Z d rx_m235 8 L (.int 0 :: S) (rz_mk h ι, w) := rz_s1 fun _ => rfl
theorem g235_8 : rg Z d rx_m235 8 L S (rz_mk h ι, w) = rg Z d rx_m235 10 L (.int 10 :: S) (rz_mk h ι, w) := rz_s1 fun _ => rfl
theorem g235_10 : rg Z d rx_m235 10 L (v3 :: v2 :: v1 :: [.ref t0]) (rz_mk h ι, w) = rz_k true (rz_f Z d 175 [v1, v2, v3] (rz_mk h ι, w)) (fun v σ' => rg Z d rx_m235 13 L (v.toList ++ [.ref t0]) σ') := rz_cs (pc := 10) (n := 3) (mi := 175) (S := v3 :: v2 :: v1 :: [.ref t0]) (rest := [.ref t0]) rfl rfl (Nat.le_of_ble_eq_true rfl) (Nat.le_of_ble_eq_true rfl)
theorem g235_13 : rg Z d rx_m235 13 L (.int x :: S) (rz_mk h ι, w) = if x = 0 then rg Z d rx_m235 16 L S (rz_mk h ι, w) else rg Z d rx_m235 20 L S (rz_mk h ι, w) := rz_if1 (pc := 13) (t := 20) (off := 7) (cc := .ne) (by decide) rfl
theorem g235_16 : rg Z d rx_m235 16 L S (rz_mk h ι, w) = rg Z d rx_m235 17 L (.int 1 :: S) (rz_mk h ι, w) := rz_s1 fun _ => rfl
theorem g235_17 : rg Z d rx_m235 17 L S (rz_mk h ι, w) = rg Z d rx_m235 21 L S (rz_mk h ι, w) := rz_s1 fun _ => rfl
theorem g235_20 : rg Z d rx_m235 20 L S (rz_mk h ι, w) = rg Z d rx_m235 21 L (.int 0 :: S) (rz_mk h ι, w) := rz_s1 fun _ => rfl
theorem g235_21 : rg Z d rx_m235 21 L S (rz_mk h ι, w) = rg Z d rx_m235 22 L (.int 1 :: S) (rz_mk h ι, w) := rz_s1 fun _ => rfl
theorem g235_22 : rg Z d rx_m235 22 L S (rz_mk h ι, w) = rg Z d rx_m235 23 L (.int 1 :: S) (rz_mk h ι, w) := rz_s1 fun _ => rfl
theorem g235_23 (c : rz_oc h a 12) : rg Z d rx_m235 23 L (v3 :: v2 :: v1 :: .ref a :: []) (rz_mk h ι, w) = rz_k true (rz_f Z d 174 [.ref a, v1, v2, v3] (rz_mk h ι, w)) (fun v σ' => rg Z d rx_m235 26 L (v.toList ++ []) σ') := rz_cv (pc := 23) (n := 3) (mi := 174) (S := v3 :: v2 :: v1 :: .ref a :: []) (rest := []) rfl rfl (Nat.le_of_ble_eq_true rfl) (Nat.le_of_ble_eq_true rfl) c
theorem g235_26 : rg Z d rx_m235 26 L (.int x :: S) (rz_mk h ι, w) = if x = 0 then rg Z d rx_m235 31 L S (rz_mk h ι, w) else rg Z d rx_m235 29 L S (rz_mk h ι, w) := rz_if1 (pc := 26) (t := 31) (off := 5) (cc := .eq) (by decide) rfl
theorem g235_29 : rg Z d rx_m235 29 L S (rz_mk h ι, w) = rg Z d rx_m235 30 L (.int 0 :: S) (rz_mk h ι, w) := rz_s1 fun _ => rfl
theorem g235_30 : rg Z d rx_m235 30 L [.int x] (rz_mk h ι, w) = some (.inl (some (.int x)), (rz_mk h ι, w)) := rz_reti rfl rfl rfl
theorem g235_31 : rg Z d rx_m235 31 L S (rz_mk h ι, w) = rg Z d rx_m235 32 L (.int 0 :: S) (rz_mk h ι, w) := rz_s1 fun _ => rfl
theorem g235_32 : rg Z d rx_m235 32 [l0, some (.int z), l2, l3] (.int x :: S) (rz_mk h ι, w) = rg Z d rx_m235 33 [l0, some (.int z), some (.int x), l3] S (rz_mk h ι, w) := rz_s1 fun _ => rfl
theorem g235_33 : rg Z d rx_m235 33 L S (rz_mk h ι, w) = rg Z d rx_m235 34 L (.int 0 :: S) (rz_mk h ι, w) := rz_s1 fun _ => rfl
theorem g235_34 : rg Z d rx_m235 34 [l0, l1, some (.int z), l3] (.int x :: S) (rz_mk h ι, w) = rg Z d rx_m235 35 [l0, l1, some (.int z), some (.int x)] S (rz_mk h ι, w) := rz_s1 fun _ => rfl
theorem g235_35 : rg Z d rx_m235 35 [l0, l1, l2, some (.int x)] S (rz_mk h ι, w) = rg Z d rx_m235 36 [l0, l1, l2, some (.int x)] (.int x :: S) (rz_mk h ι, w) := rz_s1 fun _ => rfl
theorem g235_36 : rg Z d rx_m235 36 [some (.ref a), l1, l2, l3] S (rz_mk h ι, w) = rg Z d rx_m235 37 [some (.ref a), l1, l2, l3] (.ref a :: S) (rz_mk h ι, w) := rz_s1 fun _ => rfl
theorem g235_37 (c : rz_fR h a 12 25) : rg Z d rx_m235 37 L (.ref a :: S) (rz_mk h ι, w) = rg Z d rx_m235 40 L (rz_rv h a 25 :: S) (rz_mk h ι, w) := rz_gR rfl (by decide) c
theorem g235_40 : rg Z d rx_m235 40 L S (rz_mk h ι, w) = rg Z d rx_m235 42 L (.int 57 :: S) (rz_mk h ι, w) := rz_s1 fun _ => rfl
theorem g235_42 (c : rz_ar h a 0) (hi : rz_ix x (rz_ln h a)) : rg Z d rx_m235 42 L (.int x :: .ref a :: S) (rz_mk h ι, w) = rg Z d rx_m235 43 L (.int (ι a x.toNatClampNeg) :: S) (rz_mk h ι, w) := rz_iald rfl c hi
theorem g235_43 : rg Z d rx_m235 43 L (.int y :: .int x :: S) (rz_mk h ι, w) = if x < y then rg Z d rx_m235 46 L S (rz_mk h ι, w) else rg Z d rx_m235 73 L S (rz_mk h ι, w) := rz_if2 (pc := 43) (t := 73) (off := 30) (cc := .ge) (by decide) rfl
theorem g235_46 : rg Z d rx_m235 46 [l0, l1, some (.int x), l3] S (rz_mk h ι, w) = rg Z d rx_m235 47 [l0, l1, some (.int x), l3] (.int x :: S) (rz_mk h ι, w) := rz_s1 fun _ => rfl
theorem g235_47 : rg Z d rx_m235 47 [some (.ref a), l1, l2, l3] S (rz_mk h ι, w) = rg Z d rx_m235 48 [some (.ref a), l1, l2, l3] (.ref a :: S) (rz_mk h ι, w) := rz_s1 fun _ => rfl
theorem g235_48 (c : rz_fR h a 12 25) : rg Z d rx_m235 48 L (.ref a :: S) (rz_mk h ι, w) = rg Z d rx_m235 51 L (rz_rv h a 25 :: S) (rz_mk h ι, w) := rz_gR rfl (by decide) c
theorem g235_51 : rg Z d rx_m235 51 [l0, l1, l2, some (.int x)] S (rz_mk h ι, w) = rg Z d rx_m235 52 [l0, l1, l2, some (.int x)] (.int x :: S) (rz_mk h ι, w) := rz_s1 fun _ => rfl
theorem g235_52 : rg Z d rx_m235 52 L (v2 :: v1 :: [.int s0]) (rz_mk h ι, w) = rz_k true (rz_f Z d 219 [v1, v2] (rz_mk h ι, w)) (fun v σ' => rg Z d rx_m235 55 L (v.toList ++ [.int s0]) σ') := rz_cs (pc := 52) (n := 2) (mi := 219) (S := v2 :: v1 :: [.int s0]) (rest := [.int s0]) rfl rfl (Nat.le_of_ble_eq_true rfl) (Nat.le_of_ble_eq_true rfl)
theorem g235_55 : rg Z d rx_m235 55 L (.int x :: S) (rz_mk h ι, w) = if 0 < x then rg Z d rx_m235 58 L S (rz_mk h ι, w) else rg Z d rx_m235 64 L S (rz_mk h ι, w) := rz_if1 (pc := 55) (t := 64) (off := 9) (cc := .le) (by decide) rfl
theorem g235_58 : rg Z d rx_m235 58 L S (rz_mk h ι, w) = rg Z d rx_m235 59 L (.int 1 :: S) (rz_mk h ι, w) := rz_s1 fun _ => rfl
theorem g235_59 : rg Z d rx_m235 59 [l0, l1, l2, some (.int x)] S (rz_mk h ι, w) = rg Z d rx_m235 60 [l0, l1, l2, some (.int x)] (.int x :: S) (rz_mk h ι, w) := rz_s1 fun _ => rfl
theorem g235_60 : rg Z d rx_m235 60 L (.int y :: .int x :: S) (rz_mk h ι, w) = rg Z d rx_m235 61 L (.int (x <<< (y &&& 31)) :: S) (rz_mk h ι, w) := rz_s1 fun _ => rfl
theorem g235_61 : rg Z d rx_m235 61 L S (rz_mk h ι, w) = rg Z d rx_m235 65 L S (rz_mk h ι, w) := rz_s1 fun _ => rfl
theorem g235_64 : rg Z d rx_m235 64 L S (rz_mk h ι, w) = rg Z d rx_m235 65 L (.int 0 :: S) (rz_mk h ι, w) := rz_s1 fun _ => rfl
theorem g235_65 : rg Z d rx_m235 65 L (.int y :: .int x :: S) (rz_mk h ι, w) = rg Z d rx_m235 66 L (.int (x ||| y) :: S) (rz_mk h ι, w) := rz_s1 fun _ => rfl
theorem g235_66 : rg Z d rx_m235 66 [l0, some (.int z), l2, l3] (.int x :: S) (rz_mk h ι, w) = rg Z d rx_m235 67 [l0, some (.int z), some (.int x), l3] S (rz_mk h ι, w) := rz_s1 fun _ => rfl
theorem g235_67 : rg Z d rx_m235 67 [l0, l1, some (.int z), some (.int x)] S (rz_mk h ι, w) = rg Z d rx_m235 70 [l0, l1, some (.int z), some (.int (x + 1))] S (rz_mk h ι, w) := rz_s1 fun _ => rfl
theorem g235_70 : rg Z d rx_m235 70 L S (rz_mk h ι, w) = rg Z d rx_m235 35 L S (rz_mk h ι, w) := rz_s1 fun _ => rfl
theorem g235_73 : rg Z d rx_m235 73 [l0, some (.int x), l2, l3] S (rz_mk h ι, w) = rg Z d rx_m235 74 [l0, some (.int x), l2, l3] (.int x :: S) (rz_mk h ι, w) := rz_s1 fun _ => rfl
theorem g235_74 : rg Z d rx_m235 74 L (.int x :: S) (rz_mk h ι, w) = if x = 0 then rg Z d rx_m235 128 L S (rz_mk h ι, w) else if x = 1 then rg Z d rx_m235 136 L S (rz_mk h ι, w) else if x = 2 then rg Z d rx_m235 144 L S (rz_mk h ι, w) else if x = 3 then rg Z d rx_m235 152 L S (rz_mk h ι, w) else if x = 4 then rg Z d rx_m235 160 L S (rz_mk h ι, w) else if x = 5 then rg Z d rx_m235 169 L S (rz_mk h ι, w) else if x = 6 then rg Z d rx_m235 177 L S (rz_mk h ι, w) else if x = 7 then rg Z d rx_m235 179 L S (rz_mk h ι, w) else if x = 8 then rg Z d rx_m235 187 L S (rz_mk h ι, w) else if x = 9 then rg Z d rx_m235 194 L S (rz_mk h ι, w) else rg Z d rx_m235 199 L S (rz_mk h ι, w) := by
  by_cases c0 : x = 0
  · rw [if_pos c0, c0]; exact rz_s1 fun _ => rfl
  rw [if_neg c0]
  by_cases c1 : x = 1
  · rw [if_pos c1, c1]; exact rz_s1 fun _ => rfl
  rw [if_neg c1]
  by_cases c2 : x = 2
  · rw [if_pos c2, c2]; exact rz_s1 fun _ => rfl
  rw [if_neg c2]
  by_cases c3 : x = 3
  · rw [if_pos c3, c3]; exact rz_s1 fun _ => rfl
  rw [if_neg c3]
  by_cases c4 : x = 4
  · rw [if_pos c4, c4]; exact rz_s1 fun _ => rfl
  rw [if_neg c4]
  by_cases c5 : x = 5
  · rw [if_pos c5, c5]; exact rz_s1 fun _ => rfl
  rw [if_neg c5]
  by_cases c6 : x = 6
  · rw [if_pos c6, c6]; exact rz_s1 fun _ => rfl
  rw [if_neg c6]
  by_cases c7 : x = 7
  · rw [if_pos c7, c7]; exact rz_s1 fun _ => rfl
  rw [if_neg c7]
  by_cases c8 : x = 8
  · rw [if_pos c8, c8]; exact rz_s1 fun _ => rfl
  rw [if_neg c8]
  by_cases c9 : x = 9
  · rw [if_pos c9, c9]; exact rz_s1 fun _ => rfl
  rw [if_neg c9]
  refine rz_s1 fun c => ?_
  unfold rx_at1
  show ((if x.toInt < 0 ∨ 9 < x.toInt then rx_jmp _ _ _ _ else _) : rx_P).map _ = _
  rw [if_pos]
  · rfl
  · apply Decidable.byContradiction
    intro hc
    have hn : x.toInt = 0 ∨ x.toInt = 1 ∨ x.toInt = 2 ∨ x.toInt = 3 ∨ x.toInt = 4 ∨ x.toInt = 5 ∨ x.toInt = 6 ∨ x.toInt = 7 ∨ x.toInt = 8 ∨ x.toInt = 9 := by omega
    rcases hn with hn | hn | hn | hn | hn | hn | hn | hn | hn | hn
    · exact c0 (Int32.toInt_inj.mp (hn.trans (by decide)))
    · exact c1 (Int32.toInt_inj.mp (hn.trans (by decide)))
    · exact c2 (Int32.toInt_inj.mp (hn.trans (by decide)))
    · exact c3 (Int32.toInt_inj.mp (hn.trans (by decide)))
    · exact c4 (Int32.toInt_inj.mp (hn.trans (by decide)))
    · exact c5 (Int32.toInt_inj.mp (hn.trans (by decide)))
    · exact c6 (Int32.toInt_inj.mp (hn.trans (by decide)))
    · exact c7 (Int32.toInt_inj.mp (hn.trans (by decide)))
    · exact c8 (Int32.toInt_inj.mp (hn.trans (by decide)))
    · exact c9 (Int32.toInt_inj.mp (hn.trans (by decide)))
theorem g235_128 : rg Z d rx_m235 128 [some (.ref a), l1, l2, l3] S (rz_mk h ι, w) = rg Z d rx_m235 129 [some (.ref a), l1, l2, l3] (.ref a :: S) (rz_mk h ι, w) := rz_s1 fun _ => rfl
theorem g235_129 (c : rz_fR h a 12 25) : rg Z d rx_m235 129 L (.ref a :: S) (rz_mk h ι, w) = rg Z d rx_m235 132 L (rz_rv h a 25 :: S) (rz_mk h ι, w) := rz_gR rfl (by decide) c
theorem g235_132 : rg Z d rx_m235 132 L S (rz_mk h ι, w) = rg Z d rx_m235 134 L (.int 57 :: S) (rz_mk h ι, w) := rz_s1 fun _ => rfl
theorem g235_134 (c : rz_ar h a 0) (hi : rz_ix x (rz_ln h a)) : rg Z d rx_m235 134 L (.int x :: .ref a :: S) (rz_mk h ι, w) = rg Z d rx_m235 135 L (.int (ι a x.toNatClampNeg) :: S) (rz_mk h ι, w) := rz_iald rfl c hi
theorem g235_135 : rg Z d rx_m235 135 L [.int x] (rz_mk h ι, w) = some (.inl (some (.int x)), (rz_mk h ι, w)) := rz_reti rfl rfl rfl
theorem g235_136 : rg Z d rx_m235 136 [some (.ref a), l1, l2, l3] S (rz_mk h ι, w) = rg Z d rx_m235 137 [some (.ref a), l1, l2, l3] (.ref a :: S) (rz_mk h ι, w) := rz_s1 fun _ => rfl
theorem g235_137 (c : rz_fR h a 12 25) : rg Z d rx_m235 137 L (.ref a :: S) (rz_mk h ι, w) = rg Z d rx_m235 140 L (rz_rv h a 25 :: S) (rz_mk h ι, w) := rz_gR rfl (by decide) c
theorem g235_140 : rg Z d rx_m235 140 L S (rz_mk h ι, w) = rg Z d rx_m235 142 L (.int 56 :: S) (rz_mk h ι, w) := rz_s1 fun _ => rfl
theorem g235_142 (c : rz_ar h a 0) (hi : rz_ix x (rz_ln h a)) : rg Z d rx_m235 142 L (.int x :: .ref a :: S) (rz_mk h ι, w) = rg Z d rx_m235 143 L (.int (ι a x.toNatClampNeg) :: S) (rz_mk h ι, w) := rz_iald rfl c hi
theorem g235_143 : rg Z d rx_m235 143 L [.int x] (rz_mk h ι, w) = some (.inl (some (.int x)), (rz_mk h ι, w)) := rz_reti rfl rfl rfl
theorem g235_144 : rg Z d rx_m235 144 [some (.ref a), l1, l2, l3] S (rz_mk h ι, w) = rg Z d rx_m235 145 [some (.ref a), l1, l2, l3] (.ref a :: S) (rz_mk h ι, w) := rz_s1 fun _ => rfl
theorem g235_145 (c : rz_fR h a 12 25) : rg Z d rx_m235 145 L (.ref a :: S) (rz_mk h ι, w) = rg Z d rx_m235 148 L (rz_rv h a 25 :: S) (rz_mk h ι, w) := rz_gR rfl (by decide) c
theorem g235_148 : rg Z d rx_m235 148 L S (rz_mk h ι, w) = rg Z d rx_m235 150 L (.int 58 :: S) (rz_mk h ι, w) := rz_s1 fun _ => rfl
theorem g235_150 (c : rz_ar h a 0) (hi : rz_ix x (rz_ln h a)) : rg Z d rx_m235 150 L (.int x :: .ref a :: S) (rz_mk h ι, w) = rg Z d rx_m235 151 L (.int (ι a x.toNatClampNeg) :: S) (rz_mk h ι, w) := rz_iald rfl c hi
theorem g235_151 : rg Z d rx_m235 151 L [.int x] (rz_mk h ι, w) = some (.inl (some (.int x)), (rz_mk h ι, w)) := rz_reti rfl rfl rfl
theorem g235_152 : rg Z d rx_m235 152 [some (.ref a), l1, l2, l3] S (rz_mk h ι, w) = rg Z d rx_m235 153 [some (.ref a), l1, l2, l3] (.ref a :: S) (rz_mk h ι, w) := rz_s1 fun _ => rfl
theorem g235_153 (c : rz_fR h a 12 25) : rg Z d rx_m235 153 L (.ref a :: S) (rz_mk h ι, w) = rg Z d rx_m235 156 L (rz_rv h a 25 :: S) (rz_mk h ι, w) := rz_gR rfl (by decide) c
theorem g235_156 : rg Z d rx_m235 156 L S (rz_mk h ι, w) = rg Z d rx_m235 158 L (.int 59 :: S) (rz_mk h ι, w) := rz_s1 fun _ => rfl
theorem g235_158 (c : rz_ar h a 0) (hi : rz_ix x (rz_ln h a)) : rg Z d rx_m235 158 L (.int x :: .ref a :: S) (rz_mk h ι, w) = rg Z d rx_m235 159 L (.int (ι a x.toNatClampNeg) :: S) (rz_mk h ι, w) := rz_iald rfl c hi
theorem g235_159 : rg Z d rx_m235 159 L [.int x] (rz_mk h ι, w) = some (.inl (some (.int x)), (rz_mk h ι, w)) := rz_reti rfl rfl rfl
theorem g235_160 : rg Z d rx_m235 160 [some (.ref a), l1, l2, l3] S (rz_mk h ι, w) = rg Z d rx_m235 161 [some (.ref a), l1, l2, l3] (.ref a :: S) (rz_mk h ι, w) := rz_s1 fun _ => rfl
theorem g235_161 : rg Z d rx_m235 161 [some (.ref a), l1, l2, l3] S (rz_mk h ι, w) = rg Z d rx_m235 162 [some (.ref a), l1, l2, l3] (.ref a :: S) (rz_mk h ι, w) := rz_s1 fun _ => rfl
theorem g235_162 (c : rz_fR h a 12 25) : rg Z d rx_m235 162 L (.ref a :: S) (rz_mk h ι, w) = rg Z d rx_m235 165 L (rz_rv h a 25 :: S) (rz_mk h ι, w) := rz_gR rfl (by decide) c
theorem g235_165 (c : rz_oc h a 12) : rg Z d rx_m235 165 L (v1 :: .ref a :: []) (rz_mk h ι, w) = rz_k true (rz_f Z d 224 [.ref a, v1] (rz_mk h ι, w)) (fun v σ' => rg Z d rx_m235 168 L (v.toList ++ []) σ') := rz_cv (pc := 165) (n := 1) (mi := 224) (S := v1 :: .ref a :: []) (rest := []) rfl rfl (Nat.le_of_ble_eq_true rfl) (Nat.le_of_ble_eq_true rfl) c
theorem g235_168 : rg Z d rx_m235 168 L [.int x] (rz_mk h ι, w) = some (.inl (some (.int x)), (rz_mk h ι, w)) := rz_reti rfl rfl rfl
theorem g235_169 : rg Z d rx_m235 169 [some (.ref a), l1, l2, l3] S (rz_mk h ι, w) = rg Z d rx_m235 170 [some (.ref a), l1, l2, l3] (.ref a :: S) (rz_mk h ι, w) := rz_s1 fun _ => rfl
theorem g235_170 (c : rz_fR h a 12 25) : rg Z d rx_m235 170 L (.ref a :: S) (rz_mk h ι, w) = rg Z d rx_m235 173 L (rz_rv h a 25 :: S) (rz_mk h ι, w) := rz_gR rfl (by decide) c
theorem g235_173 : rg Z d rx_m235 173 L S (rz_mk h ι, w) = rg Z d rx_m235 175 L (.int 61 :: S) (rz_mk h ι, w) := rz_s1 fun _ => rfl
theorem g235_175 (c : rz_ar h a 0) (hi : rz_ix x (rz_ln h a)) : rg Z d rx_m235 175 L (.int x :: .ref a :: S) (rz_mk h ι, w) = rg Z d rx_m235 176 L (.int (ι a x.toNatClampNeg) :: S) (rz_mk h ι, w) := rz_iald rfl c hi
theorem g235_176 : rg Z d rx_m235 176 L [.int x] (rz_mk h ι, w) = some (.inl (some (.int x)), (rz_mk h ι, w)) := rz_reti rfl rfl rfl
theorem g235_177 : rg Z d rx_m235 177 [l0, l1, some (.int x), l3] S (rz_mk h ι, w) = rg Z d rx_m235 178 [l0, l1, some (.int x), l3] (.int x :: S) (rz_mk h ι, w) := rz_s1 fun _ => rfl
theorem g235_178 : rg Z d rx_m235 178 L [.int x] (rz_mk h ι, w) = some (.inl (some (.int x)), (rz_mk h ι, w)) := rz_reti rfl rfl rfl
theorem g235_179 : rg Z d rx_m235 179 [some (.ref a), l1, l2, l3] S (rz_mk h ι, w) = rg Z d rx_m235 180 [some (.ref a), l1, l2, l3] (.ref a :: S) (rz_mk h ι, w) := rz_s1 fun _ => rfl
theorem g235_180 (c : rz_fR h a 12 25) : rg Z d rx_m235 180 L (.ref a :: S) (rz_mk h ι, w) = rg Z d rx_m235 183 L (rz_rv h a 25 :: S) (rz_mk h ι, w) := rz_gR rfl (by decide) c
theorem g235_183 : rg Z d rx_m235 183 L S (rz_mk h ι, w) = rg Z d rx_m235 185 L (.int 60 :: S) (rz_mk h ι, w) := rz_s1 fun _ => rfl
theorem g235_185 (c : rz_ar h a 0) (hi : rz_ix x (rz_ln h a)) : rg Z d rx_m235 185 L (.int x :: .ref a :: S) (rz_mk h ι, w) = rg Z d rx_m235 186 L (.int (ι a x.toNatClampNeg) :: S) (rz_mk h ι, w) := rz_iald rfl c hi
theorem g235_186 : rg Z d rx_m235 186 L [.int x] (rz_mk h ι, w) = some (.inl (some (.int x)), (rz_mk h ι, w)) := rz_reti rfl rfl rfl
theorem g235_187 : rg Z d rx_m235 187 [some (.ref a), l1, l2, l3] S (rz_mk h ι, w) = rg Z d rx_m235 188 [some (.ref a), l1, l2, l3] (.ref a :: S) (rz_mk h ι, w) := rz_s1 fun _ => rfl
theorem g235_188 (c : rz_fR h a 12 12) : rg Z d rx_m235 188 L (.ref a :: S) (rz_mk h ι, w) = rg Z d rx_m235 191 L (rz_rv h a 12 :: S) (rz_mk h ι, w) := rz_gR rfl (by decide) c
theorem g235_191 : rg Z d rx_m235 191 L S (rz_mk h ι, w) = rg Z d rx_m235 192 L (.int 2 :: S) (rz_mk h ι, w) := rz_s1 fun _ => rfl
theorem g235_192 (c : rz_ar h a 0) (hi : rz_ix x (rz_ln h a)) : rg Z d rx_m235 192 L (.int x :: .ref a :: S) (rz_mk h ι, w) = rg Z d rx_m235 193 L (.int (ι a x.toNatClampNeg) :: S) (rz_mk h ι, w) := rz_iald rfl c hi
theorem g235_193 : rg Z d rx_m235 193 L [.int x] (rz_mk h ι, w) = some (.inl (some (.int x)), (rz_mk h ι, w)) := rz_reti rfl rfl rfl
theorem g235_194 : rg Z d rx_m235 194 [some (.ref a), l1, l2, l3] S (rz_mk h ι, w) = rg Z d rx_m235 195 [some (.ref a), l1, l2, l3] (.ref a :: S) (rz_mk h ι, w) := rz_s1 fun _ => rfl
theorem g235_195 (c : rz_fI h a 12 29) : rg Z d rx_m235 195 L (.ref a :: S) (rz_mk h ι, w) = rg Z d rx_m235 198 L (.int (ι a 29) :: S) (rz_mk h ι, w) := rz_gI rfl (by decide) c
theorem g235_198 : rg Z d rx_m235 198 L [.int x] (rz_mk h ι, w) = some (.inl (some (.int x)), (rz_mk h ι, w)) := rz_reti rfl rfl rfl
theorem g235_199 : rg Z d rx_m235 199 [some (.ref a), l1, l2, l3] S (rz_mk h ι, w) = rg Z d rx_m235 200 [some (.ref a), l1, l2, l3] (.ref a :: S) (rz_mk h ι, w) := rz_s1 fun _ => rfl
theorem g235_200 (c : rz_fI h a 12 31) : rg Z d rx_m235 200 L (.ref a :: S) (rz_mk h ι, w) = rg Z d rx_m235 203 L (.int (ι a 31) :: S) (rz_mk h ι, w) := rz_gI rfl (by decide) c
theorem g235_203 : rg Z d rx_m235 203 L [.int x] (rz_mk h ι, w) = some (.inl (some (.int x)), (rz_mk h ι, w)) := rz_reti rfl rfl rfl
theorem e235 : rz_f Z (d + 1) 235 [.ref t0, .int s1] σ = rg Z d rx_m235 0 [some (.ref t0), some (.int s1), none, none] [] σ := rz_f_eq rfl (Nat.le_of_ble_eq_true rfl)
theorem g236_0 : rg Z d rx_m236 0 [l0, some (.int x)] S (rz_mk h ι, w) = rg Z d rx_m236 1 [l0, some (.int x)] (.int x :: S) (rz_mk h ι, w) := rz_s1 fun _ => rfl
theorem g236_1 : rg Z d rx_m236 1 L S (rz_mk h ι, w) = rg Z d rx_m236 2 L (.int 0 :: S) (rz_mk h ι, w) := rz_s1 fun _ => rfl
theorem g236_2 : rg Z d rx_m236 2 [some (.ref a), l1] S (rz_mk h ι, w) = rg Z d rx_m236 3 [some (.ref a), l1] (.ref a :: S) (rz_mk h ι, w) := rz_s1 fun _ => rfl
theorem g236_3 (c : rz_fR h a 12 25) : rg Z d rx_m236 3 L (.ref a :: S) (rz_mk h ι, w) = rg Z d rx_m236 6 L (rz_rv h a 25 :: S) (rz_mk h ι, w) := rz_gR rfl (by decide) c
theorem g236_6 : rg Z d rx_m236 6 L S (rz_mk h ι, w) = rg Z d rx_m236 8 L (.int 57 :: S) (rz_mk h ι, w) := rz_s1 fun _ => rfl
theorem g236_8 (c : rz_ar h a 0) (hi : rz_ix x (rz_ln h a)) : rg Z d rx_m236 8 L (.int x :: .ref a :: S) (rz_mk h ι, w) = rg Z d rx_m236 9 L (.int (ι a x.toNatClampNeg) :: S) (rz_mk h ι, w) := rz_iald rfl c hi
theorem g236_9 : rg Z d rx_m236 9 L S (rz_mk h ι, w) = rg Z d rx_m236 10 L (.int 1 :: S) (rz_mk h ι, w) := rz_s1 fun _ => rfl
theorem g236_10 : rg Z d rx_m236 10 L (.int y :: .int x :: S) (rz_mk h ι, w) = rg Z d rx_m236 11 L (.int (x - y) :: S) (rz_mk h ι, w) := rz_s1 fun _ => rfl
theorem g236_11 : rg Z d rx_m236 11 L (v3 :: v2 :: v1 :: []) (rz_mk h ι, w) = rz_k true (rz_f Z d 175 [v1, v2, v3] (rz_mk h ι, w)) (fun v σ' => rg Z d rx_m236 14 L (v.toList ++ []) σ') := rz_cs (pc := 11) (n := 3) (mi := 175) (S := v3 :: v2 :: v1 :: []) (rest := []) rfl rfl (Nat.le_of_ble_eq_true rfl) (Nat.le_of_ble_eq_true rfl)
theorem g236_14 (c : narrow .boolean (.int x) = .int x) : rg Z d rx_m236 14 L [.int x] (rz_mk h ι, w) = some (.inl (some (.int x)), (rz_mk h ι, w)) := rz_reti rfl rfl c
theorem e236 : rz_f Z (d + 1) 236 [.ref t0, .int s1] σ = rg Z d rx_m236 0 [some (.ref t0), some (.int s1)] [] σ := rz_f_eq rfl (Nat.le_of_ble_eq_true rfl)
theorem g237_0 : rg Z d rx_m237 0 [l0, some (.ref a), l2] S (rz_mk h ι, w) = rg Z d rx_m237 1 [l0, some (.ref a), l2] (.ref a :: S) (rz_mk h ι, w) := rz_s1 fun _ => rfl
theorem g237_1 : rg Z d rx_m237 1 L S (rz_mk h ι, w) = rg Z d rx_m237 3 L (.int 58 :: S) (rz_mk h ι, w) := rz_s1 fun _ => rfl
theorem g237_3 (c : rz_ar h a 0) (hi : rz_ix x (rz_ln h a)) : rg Z d rx_m237 3 L (.int x :: .ref a :: S) (rz_mk h ι, w) = rg Z d rx_m237 4 L (.int (ι a x.toNatClampNeg) :: S) (rz_mk h ι, w) := rz_iald rfl c hi
theorem g237_4 : rg Z d rx_m237 4 L S (rz_mk h ι, w) = rg Z d rx_m237 5 L (.int (-1) :: S) (rz_mk h ι, w) := rz_s1 fun _ => rfl
theorem g237_5 : rg Z d rx_m237 5 L (.int y :: .int x :: S) (rz_mk h ι, w) = if x = y then rg Z d rx_m237 16 L S (rz_mk h ι, w) else rg Z d rx_m237 8 L S (rz_mk h ι, w) := rz_if2 (pc := 5) (t := 16) (off := 11) (cc := .eq) (by decide) rfl
theorem g237_8 : rg Z d rx_m237 8 [l0, some (.ref a), l2] S (rz_mk h ι, w) = rg Z d rx_m237 9 [l0, some (.ref a), l2] (.ref a :: S) (rz_mk h ι, w) := rz_s1 fun _ => rfl
theorem g237_9 : rg Z d rx_m237 9 L S (rz_mk h ι, w) = rg Z d rx_m237 11 L (.int 58 :: S) (rz_mk h ι, w) := rz_s1 fun _ => rfl
theorem g237_11 (c : rz_ar h a 0) (hi : rz_ix x (rz_ln h a)) : rg Z d rx_m237 11 L (.int x :: .ref a :: S) (rz_mk h ι, w) = rg Z d rx_m237 12 L (.int (ι a x.toNatClampNeg) :: S) (rz_mk h ι, w) := rz_iald rfl c hi
theorem g237_12 : rg Z d rx_m237 12 [l0, l1, some (.int x)] S (rz_mk h ι, w) = rg Z d rx_m237 13 [l0, l1, some (.int x)] (.int x :: S) (rz_mk h ι, w) := rz_s1 fun _ => rfl
theorem g237_13 : rg Z d rx_m237 13 L (.int y :: .int x :: S) (rz_mk h ι, w) = if x = y then rg Z d rx_m237 16 L S (rz_mk h ι, w) else rg Z d rx_m237 20 L S (rz_mk h ι, w) := rz_if2 (pc := 13) (t := 20) (off := 7) (cc := .ne) (by decide) rfl
theorem g237_16 : rg Z d rx_m237 16 L S (rz_mk h ι, w) = rg Z d rx_m237 17 L (.int 0 :: S) (rz_mk h ι, w) := rz_s1 fun _ => rfl
theorem g237_17 : rg Z d rx_m237 17 L S (rz_mk h ι, w) = rg Z d rx_m237 30 L S (rz_mk h ι, w) := rz_s1 fun _ => rfl
theorem g237_20 : rg Z d rx_m237 20 [some (.ref a), l1, l2] S (rz_mk h ι, w) = rg Z d rx_m237 21 [some (.ref a), l1, l2] (.ref a :: S) (rz_mk h ι, w) := rz_s1 fun _ => rfl
theorem g237_21 : rg Z d rx_m237 21 [l0, some (.ref a), l2] S (rz_mk h ι, w) = rg Z d rx_m237 22 [l0, some (.ref a), l2] (.ref a :: S) (rz_mk h ι, w) := rz_s1 fun _ => rfl
theorem g237_22 : rg Z d rx_m237 22 [l0, l1, some (.int x)] S (rz_mk h ι, w) = rg Z d rx_m237 23 [l0, l1, some (.int x)] (.int x :: S) (rz_mk h ι, w) := rz_s1 fun _ => rfl
theorem g237_23 : rg Z d rx_m237 23 [l0, some (.ref a), l2] S (rz_mk h ι, w) = rg Z d rx_m237 24 [l0, some (.ref a), l2] (.ref a :: S) (rz_mk h ι, w) := rz_s1 fun _ => rfl
theorem g237_24 : rg Z d rx_m237 24 L S (rz_mk h ι, w) = rg Z d rx_m237 26 L (.int 58 :: S) (rz_mk h ι, w) := rz_s1 fun _ => rfl
theorem g237_26 (c : rz_ar h a 0) (hi : rz_ix x (rz_ln h a)) : rg Z d rx_m237 26 L (.int x :: .ref a :: S) (rz_mk h ι, w) = rg Z d rx_m237 27 L (.int (ι a x.toNatClampNeg) :: S) (rz_mk h ι, w) := rz_iald rfl c hi
theorem g237_27 (c : rz_oc h a 12) : rg Z d rx_m237 27 L (v3 :: v2 :: v1 :: .ref a :: []) (rz_mk h ι, w) = rz_k true (rz_f Z d 221 [.ref a, v1, v2, v3] (rz_mk h ι, w)) (fun v σ' => rg Z d rx_m237 30 L (v.toList ++ []) σ') := rz_cv (pc := 27) (n := 3) (mi := 221) (S := v3 :: v2 :: v1 :: .ref a :: []) (rest := []) rfl rfl (Nat.le_of_ble_eq_true rfl) (Nat.le_of_ble_eq_true rfl) c
theorem g237_30 : rg Z d rx_m237 30 L [.int x] (rz_mk h ι, w) = some (.inl (some (.int x)), (rz_mk h ι, w)) := rz_reti rfl rfl rfl
theorem e237 : rz_f Z (d + 1) 237 [.ref t0, .ref t1, .int s2] σ = rg Z d rx_m237 0 [some (.ref t0), some (.ref t1), some (.int s2)] [] σ := rz_f_eq rfl (Nat.le_of_ble_eq_true rfl)
theorem g238_0 : rg Z d rx_m238 0 [some (.ref a), l1, l2] S (rz_mk h ι, w) = rg Z d rx_m238 1 [some (.ref a), l1, l2] (.ref a :: S) (rz_mk h ι, w) := rz_s1 fun _ => rfl
theorem g238_1 : rg Z d rx_m238 1 L S (rz_mk h ι, w) = rg Z d rx_m238 2 L (.int 0 :: S) (rz_mk h ι, w) := rz_s1 fun _ => rfl
theorem g238_2 (c : rz_fI h a 12 0) (hz : Z.2.1 ≤ a) : rg Z d rx_m238 2 L (.int x :: .ref a :: S) (rz_mk h ι, w) = rg Z d rx_m238 5 L S (rz_mk h (rz_up ι a 0 x), w) := rz_pI rfl c hz
theorem g238_5 : rg Z d rx_m238 5 [some (.ref a), l1, l2] S (rz_mk h ι, w) = rg Z d rx_m238 6 [some (.ref a), l1, l2] (.ref a :: S) (rz_mk h ι, w) := rz_s1 fun _ => rfl
theorem g238_6 : rg Z d rx_m238 6 [some (.ref a), l1, l2] S (rz_mk h ι, w) = rg Z d rx_m238 7 [some (.ref a), l1, l2] (.ref a :: S) (rz_mk h ι, w) := rz_s1 fun _ => rfl
theorem g238_7 : rg Z d rx_m238 7 [l0, some (.int x), l2] S (rz_mk h ι, w) = rg Z d rx_m238 8 [l0, some (.int x), l2] (.int x :: S) (rz_mk h ι, w) := rz_s1 fun _ => rfl
theorem g238_8 (c : rz_oc h a 12) : rg Z d rx_m238 8 L (v1 :: .ref a :: [.ref t0]) (rz_mk h ι, w) = rz_k true (rz_f Z d 236 [.ref a, v1] (rz_mk h ι, w)) (fun v σ' => rg Z d rx_m238 11 L (v.toList ++ [.ref t0]) σ') := rz_cv (pc := 8) (n := 1) (mi := 236) (S := v1 :: .ref a :: [.ref t0]) (rest := [.ref t0]) rfl rfl (Nat.le_of_ble_eq_true rfl) (Nat.le_of_ble_eq_true rfl) c
theorem g238_11 : rg Z d rx_m238 11 L (.int x :: S) (rz_mk h ι, w) = if x = 0 then rg Z d rx_m238 14 L S (rz_mk h ι, w) else rg Z d rx_m238 18 L S (rz_mk h ι, w) := rz_if1 (pc := 11) (t := 18) (off := 7) (cc := .ne) (by decide) rfl
theorem g238_14 : rg Z d rx_m238 14 L S (rz_mk h ι, w) = rg Z d rx_m238 15 L (.int 1 :: S) (rz_mk h ι, w) := rz_s1 fun _ => rfl
theorem g238_15 : rg Z d rx_m238 15 L S (rz_mk h ι, w) = rg Z d rx_m238 19 L S (rz_mk h ι, w) := rz_s1 fun _ => rfl
theorem g238_18 : rg Z d rx_m238 18 L S (rz_mk h ι, w) = rg Z d rx_m238 19 L (.int 0 :: S) (rz_mk h ι, w) := rz_s1 fun _ => rfl
theorem g238_19 : rg Z d rx_m238 19 L S (rz_mk h ι, w) = rg Z d rx_m238 20 L (.int 1 :: S) (rz_mk h ι, w) := rz_s1 fun _ => rfl
theorem g238_20 : rg Z d rx_m238 20 L S (rz_mk h ι, w) = rg Z d rx_m238 21 L (.int 0 :: S) (rz_mk h ι, w) := rz_s1 fun _ => rfl
theorem g238_21 (c : rz_oc h a 12) : rg Z d rx_m238 21 L (v3 :: v2 :: v1 :: .ref a :: []) (rz_mk h ι, w) = rz_k true (rz_f Z d 174 [.ref a, v1, v2, v3] (rz_mk h ι, w)) (fun v σ' => rg Z d rx_m238 24 L (v.toList ++ []) σ') := rz_cv (pc := 21) (n := 3) (mi := 174) (S := v3 :: v2 :: v1 :: .ref a :: []) (rest := []) rfl rfl (Nat.le_of_ble_eq_true rfl) (Nat.le_of_ble_eq_true rfl) c
theorem g238_24 : rg Z d rx_m238 24 L (.int x :: S) (rz_mk h ι, w) = if x = 0 then rg Z d rx_m238 27 L S (rz_mk h ι, w) else rg Z d rx_m238 51 L S (rz_mk h ι, w) := rz_if1 (pc := 24) (t := 51) (off := 27) (cc := .ne) (by decide) rfl
theorem g238_27 : rg Z d rx_m238 27 [some (.ref a), l1, l2] S (rz_mk h ι, w) = rg Z d rx_m238 28 [some (.ref a), l1, l2] (.ref a :: S) (rz_mk h ι, w) := rz_s1 fun _ => rfl
theorem g238_28 : rg Z d rx_m238 28 [l0, l1, some (.int x)] S (rz_mk h ι, w) = rg Z d rx_m238 29 [l0, l1, some (.int x)] (.int x :: S) (rz_mk h ι, w) := rz_s1 fun _ => rfl
theorem g238_29 : rg Z d rx_m238 29 L S (rz_mk h ι, w) = rg Z d rx_m238 30 L (.int 0 :: S) (rz_mk h ι, w) := rz_s1 fun _ => rfl
theorem g238_30 : rg Z d rx_m238 30 L S (rz_mk h ι, w) = rg Z d rx_m238 32 L (.int 9 :: S) (rz_mk h ι, w) := rz_s1 fun _ => rfl
theorem g238_32 : rg Z d rx_m238 32 L (v3 :: v2 :: v1 :: [.ref t0]) (rz_mk h ι, w) = rz_k true (rz_f Z d 175 [v1, v2, v3] (rz_mk h ι, w)) (fun v σ' => rg Z d rx_m238 35 L (v.toList ++ [.ref t0]) σ') := rz_cs (pc := 32) (n := 3) (mi := 175) (S := v3 :: v2 :: v1 :: [.ref t0]) (rest := [.ref t0]) rfl rfl (Nat.le_of_ble_eq_true rfl) (Nat.le_of_ble_eq_true rfl)
theorem g238_35 : rg Z d rx_m238 35 L (.int x :: S) (rz_mk h ι, w) = if x = 0 then rg Z d rx_m238 38 L S (rz_mk h ι, w) else rg Z d rx_m238 42 L S (rz_mk h ι, w) := rz_if1 (pc := 35) (t := 42) (off := 7) (cc := .ne) (by decide) rfl
theorem g238_38 : rg Z d rx_m238 38 L S (rz_mk h ι, w) = rg Z d rx_m238 39 L (.int 1 :: S) (rz_mk h ι, w) := rz_s1 fun _ => rfl
theorem g238_39 : rg Z d rx_m238 39 L S (rz_mk h ι, w) = rg Z d rx_m238 43 L S (rz_mk h ι, w) := rz_s1 fun _ => rfl
theorem g238_42 : rg Z d rx_m238 42 L S (rz_mk h ι, w) = rg Z d rx_m238 43 L (.int 0 :: S) (rz_mk h ι, w) := rz_s1 fun _ => rfl
theorem g238_43 : rg Z d rx_m238 43 L S (rz_mk h ι, w) = rg Z d rx_m238 44 L (.int 2 :: S) (rz_mk h ι, w) := rz_s1 fun _ => rfl
theorem g238_44 : rg Z d rx_m238 44 L S (rz_mk h ι, w) = rg Z d rx_m238 45 L (.int 1 :: S) (rz_mk h ι, w) := rz_s1 fun _ => rfl
theorem g238_45 (c : rz_oc h a 12) : rg Z d rx_m238 45 L (v3 :: v2 :: v1 :: .ref a :: []) (rz_mk h ι, w) = rz_k true (rz_f Z d 174 [.ref a, v1, v2, v3] (rz_mk h ι, w)) (fun v σ' => rg Z d rx_m238 48 L (v.toList ++ []) σ') := rz_cv (pc := 45) (n := 3) (mi := 174) (S := v3 :: v2 :: v1 :: .ref a :: []) (rest := []) rfl rfl (Nat.le_of_ble_eq_true rfl) (Nat.le_of_ble_eq_true rfl) c
theorem g238_48 : rg Z d rx_m238 48 L (.int x :: S) (rz_mk h ι, w) = if x = 0 then rg Z d rx_m238 53 L S (rz_mk h ι, w) else rg Z d rx_m238 51 L S (rz_mk h ι, w) := rz_if1 (pc := 48) (t := 53) (off := 5) (cc := .eq) (by decide) rfl
theorem g238_51 : rg Z d rx_m238 51 L S (rz_mk h ι, w) = rg Z d rx_m238 52 L (.int 0 :: S) (rz_mk h ι, w) := rz_s1 fun _ => rfl
theorem g238_52 : rg Z d rx_m238 52 L [.int x] (rz_mk h ι, w) = some (.inl (some (.int x)), (rz_mk h ι, w)) := rz_reti rfl rfl rfl
theorem g238_53 : rg Z d rx_m238 53 [l0, l1, some (.int x)] S (rz_mk h ι, w) = rg Z d rx_m238 54 [l0, l1, some (.int x)] (.int x :: S) (rz_mk h ι, w) := rz_s1 fun _ => rfl
theorem g238_54 : rg Z d rx_m238 54 L S (rz_mk h ι, w) = rg Z d rx_m238 55 L (.int 3 :: S) (rz_mk h ι, w) := rz_s1 fun _ => rfl
theorem g238_55 : rg Z d rx_m238 55 L (.int y :: .int x :: S) (rz_mk h ι, w) = if x < y then rg Z d rx_m238 58 L S (rz_mk h ι, w) else rg Z d rx_m238 68 L S (rz_mk h ι, w) := rz_if2 (pc := 55) (t := 68) (off := 13) (cc := .ge) (by decide) rfl
theorem g238_58 : rg Z d rx_m238 58 [some (.ref a), l1, l2] S (rz_mk h ι, w) = rg Z d rx_m238 59 [some (.ref a), l1, l2] (.ref a :: S) (rz_mk h ι, w) := rz_s1 fun _ => rfl
theorem g238_59 (c : rz_fR h a 12 25) : rg Z d rx_m238 59 L (.ref a :: S) (rz_mk h ι, w) = rg Z d rx_m238 62 L (rz_rv h a 25 :: S) (rz_mk h ι, w) := rz_gR rfl (by decide) c
theorem g238_62 : rg Z d rx_m238 62 [l0, some (.int x), l2] S (rz_mk h ι, w) = rg Z d rx_m238 63 [l0, some (.int x), l2] (.int x :: S) (rz_mk h ι, w) := rz_s1 fun _ => rfl
theorem g238_63 : rg Z d rx_m238 63 [l0, l1, some (.int x)] S (rz_mk h ι, w) = rg Z d rx_m238 64 [l0, l1, some (.int x)] (.int x :: S) (rz_mk h ι, w) := rz_s1 fun _ => rfl
theorem g238_64 : rg Z d rx_m238 64 L (v3 :: v2 :: v1 :: []) (rz_mk h ι, w) = rz_k true (rz_f Z d 217 [v1, v2, v3] (rz_mk h ι, w)) (fun v σ' => rg Z d rx_m238 67 L (v.toList ++ []) σ') := rz_cs (pc := 64) (n := 3) (mi := 217) (S := v3 :: v2 :: v1 :: []) (rest := []) rfl rfl (Nat.le_of_ble_eq_true rfl) (Nat.le_of_ble_eq_true rfl)
theorem g238_67 : rg Z d rx_m238 67 L [.int x] (rz_mk h ι, w) = some (.inl (some (.int x)), (rz_mk h ι, w)) := rz_reti rfl rfl rfl
theorem g238_68 : rg Z d rx_m238 68 [l0, l1, some (.int x)] S (rz_mk h ι, w) = rg Z d rx_m238 69 [l0, l1, some (.int x)] (.int x :: S) (rz_mk h ι, w) := rz_s1 fun _ => rfl
theorem g238_69 : rg Z d rx_m238 69 L S (rz_mk h ι, w) = rg Z d rx_m238 71 L (.int 6 :: S) (rz_mk h ι, w) := rz_s1 fun _ => rfl
theorem g238_71 : rg Z d rx_m238 71 L (.int y :: .int x :: S) (rz_mk h ι, w) = if x < y then rg Z d rx_m238 74 L S (rz_mk h ι, w) else rg Z d rx_m238 86 L S (rz_mk h ι, w) := rz_if2 (pc := 71) (t := 86) (off := 15) (cc := .ge) (by decide) rfl
theorem g238_74 : rg Z d rx_m238 74 [some (.ref a), l1, l2] S (rz_mk h ι, w) = rg Z d rx_m238 75 [some (.ref a), l1, l2] (.ref a :: S) (rz_mk h ι, w) := rz_s1 fun _ => rfl
theorem g238_75 (c : rz_fR h a 12 25) : rg Z d rx_m238 75 L (.ref a :: S) (rz_mk h ι, w) = rg Z d rx_m238 78 L (rz_rv h a 25 :: S) (rz_mk h ι, w) := rz_gR rfl (by decide) c
theorem g238_78 : rg Z d rx_m238 78 [l0, some (.int x), l2] S (rz_mk h ι, w) = rg Z d rx_m238 79 [l0, some (.int x), l2] (.int x :: S) (rz_mk h ι, w) := rz_s1 fun _ => rfl
theorem g238_79 : rg Z d rx_m238 79 [l0, l1, some (.int x)] S (rz_mk h ι, w) = rg Z d rx_m238 80 [l0, l1, some (.int x)] (.int x :: S) (rz_mk h ι, w) := rz_s1 fun _ => rfl
theorem g238_80 : rg Z d rx_m238 80 L S (rz_mk h ι, w) = rg Z d rx_m238 81 L (.int 3 :: S) (rz_mk h ι, w) := rz_s1 fun _ => rfl
theorem g238_81 : rg Z d rx_m238 81 L (.int y :: .int x :: S) (rz_mk h ι, w) = rg Z d rx_m238 82 L (.int (x - y) :: S) (rz_mk h ι, w) := rz_s1 fun _ => rfl
theorem g238_82 : rg Z d rx_m238 82 L (v3 :: v2 :: v1 :: []) (rz_mk h ι, w) = rz_k true (rz_f Z d 218 [v1, v2, v3] (rz_mk h ι, w)) (fun v σ' => rg Z d rx_m238 85 L (v.toList ++ []) σ') := rz_cs (pc := 82) (n := 3) (mi := 218) (S := v3 :: v2 :: v1 :: []) (rest := []) rfl rfl (Nat.le_of_ble_eq_true rfl) (Nat.le_of_ble_eq_true rfl)
theorem g238_85 : rg Z d rx_m238 85 L [.int x] (rz_mk h ι, w) = some (.inl (some (.int x)), (rz_mk h ι, w)) := rz_reti rfl rfl rfl
theorem g238_86 : rg Z d rx_m238 86 [l0, l1, some (.int x)] S (rz_mk h ι, w) = rg Z d rx_m238 87 [l0, l1, some (.int x)] (.int x :: S) (rz_mk h ι, w) := rz_s1 fun _ => rfl
theorem g238_87 : rg Z d rx_m238 87 L S (rz_mk h ι, w) = rg Z d rx_m238 89 L (.int 6 :: S) (rz_mk h ι, w) := rz_s1 fun _ => rfl
theorem g238_89 : rg Z d rx_m238 89 L (.int y :: .int x :: S) (rz_mk h ι, w) = if x = y then rg Z d rx_m238 92 L S (rz_mk h ι, w) else rg Z d rx_m238 104 L S (rz_mk h ι, w) := rz_if2 (pc := 89) (t := 104) (off := 15) (cc := .ne) (by decide) rfl
theorem g238_92 : rg Z d rx_m238 92 [some (.ref a), l1, l2] S (rz_mk h ι, w) = rg Z d rx_m238 93 [some (.ref a), l1, l2] (.ref a :: S) (rz_mk h ι, w) := rz_s1 fun _ => rfl
theorem g238_93 (c : rz_fR h a 12 25) : rg Z d rx_m238 93 L (.ref a :: S) (rz_mk h ι, w) = rg Z d rx_m238 96 L (rz_rv h a 25 :: S) (rz_mk h ι, w) := rz_gR rfl (by decide) c
theorem g238_96 : rg Z d rx_m238 96 L S (rz_mk h ι, w) = rg Z d rx_m238 98 L (.int 48 :: S) (rz_mk h ι, w) := rz_s1 fun _ => rfl
theorem g238_98 : rg Z d rx_m238 98 [l0, some (.int x), l2] S (rz_mk h ι, w) = rg Z d rx_m238 99 [l0, some (.int x), l2] (.int x :: S) (rz_mk h ι, w) := rz_s1 fun _ => rfl
theorem g238_99 : rg Z d rx_m238 99 L (.int y :: .int x :: S) (rz_mk h ι, w) = rg Z d rx_m238 100 L (.int (x + y) :: S) (rz_mk h ι, w) := rz_s1 fun _ => rfl
theorem g238_100 (c : rz_ar h a 0) (hi : rz_ix x (rz_ln h a)) : rg Z d rx_m238 100 L (.int x :: .ref a :: S) (rz_mk h ι, w) = rg Z d rx_m238 101 L (.int (ι a x.toNatClampNeg) :: S) (rz_mk h ι, w) := rz_iald rfl c hi
theorem g238_101 : rg Z d rx_m238 101 L S (rz_mk h ι, w) = rg Z d rx_m238 150 L S (rz_mk h ι, w) := rz_s1 fun _ => rfl
theorem g238_104 : rg Z d rx_m238 104 [l0, l1, some (.int x)] S (rz_mk h ι, w) = rg Z d rx_m238 105 [l0, l1, some (.int x)] (.int x :: S) (rz_mk h ι, w) := rz_s1 fun _ => rfl
theorem g238_105 : rg Z d rx_m238 105 L S (rz_mk h ι, w) = rg Z d rx_m238 107 L (.int 7 :: S) (rz_mk h ι, w) := rz_s1 fun _ => rfl
theorem g238_107 : rg Z d rx_m238 107 L (.int y :: .int x :: S) (rz_mk h ι, w) = if x = y then rg Z d rx_m238 110 L S (rz_mk h ι, w) else rg Z d rx_m238 124 L S (rz_mk h ι, w) := rz_if2 (pc := 107) (t := 124) (off := 17) (cc := .ne) (by decide) rfl
theorem g238_110 : rg Z d rx_m238 110 [some (.ref a), l1, l2] S (rz_mk h ι, w) = rg Z d rx_m238 111 [some (.ref a), l1, l2] (.ref a :: S) (rz_mk h ι, w) := rz_s1 fun _ => rfl
theorem g238_111 (c : rz_fR h a 12 25) : rg Z d rx_m238 111 L (.ref a :: S) (rz_mk h ι, w) = rg Z d rx_m238 114 L (rz_rv h a 25 :: S) (rz_mk h ι, w) := rz_gR rfl (by decide) c
theorem g238_114 : rg Z d rx_m238 114 L S (rz_mk h ι, w) = rg Z d rx_m238 116 L (.int 56 :: S) (rz_mk h ι, w) := rz_s1 fun _ => rfl
theorem g238_116 (c : rz_ar h a 0) (hi : rz_ix x (rz_ln h a)) : rg Z d rx_m238 116 L (.int x :: .ref a :: S) (rz_mk h ι, w) = rg Z d rx_m238 117 L (.int (ι a x.toNatClampNeg) :: S) (rz_mk h ι, w) := rz_iald rfl c hi
theorem g238_117 : rg Z d rx_m238 117 [l0, some (.int x), l2] S (rz_mk h ι, w) = rg Z d rx_m238 118 [l0, some (.int x), l2] (.int x :: S) (rz_mk h ι, w) := rz_s1 fun _ => rfl
theorem g238_118 : rg Z d rx_m238 118 L (.int y :: .int x :: S) (rz_mk h ι, w) = rg Z d rx_m238 119 L (.int (x >>> (y &&& 31)) :: S) (rz_mk h ι, w) := rz_s1 fun _ => rfl
theorem g238_119 : rg Z d rx_m238 119 L S (rz_mk h ι, w) = rg Z d rx_m238 120 L (.int 1 :: S) (rz_mk h ι, w) := rz_s1 fun _ => rfl
theorem g238_120 : rg Z d rx_m238 120 L (.int y :: .int x :: S) (rz_mk h ι, w) = rg Z d rx_m238 121 L (.int (x &&& y) :: S) (rz_mk h ι, w) := rz_s1 fun _ => rfl
theorem g238_121 : rg Z d rx_m238 121 L S (rz_mk h ι, w) = rg Z d rx_m238 150 L S (rz_mk h ι, w) := rz_s1 fun _ => rfl
theorem g238_124 : rg Z d rx_m238 124 [l0, l1, some (.int x)] S (rz_mk h ι, w) = rg Z d rx_m238 125 [l0, l1, some (.int x)] (.int x :: S) (rz_mk h ι, w) := rz_s1 fun _ => rfl
theorem g238_125 : rg Z d rx_m238 125 L S (rz_mk h ι, w) = rg Z d rx_m238 127 L (.int 8 :: S) (rz_mk h ι, w) := rz_s1 fun _ => rfl
theorem g238_127 : rg Z d rx_m238 127 L (.int y :: .int x :: S) (rz_mk h ι, w) = if x = y then rg Z d rx_m238 130 L S (rz_mk h ι, w) else rg Z d rx_m238 141 L S (rz_mk h ι, w) := rz_if2 (pc := 127) (t := 141) (off := 14) (cc := .ne) (by decide) rfl
theorem g238_130 : rg Z d rx_m238 130 [some (.ref a), l1, l2] S (rz_mk h ι, w) = rg Z d rx_m238 131 [some (.ref a), l1, l2] (.ref a :: S) (rz_mk h ι, w) := rz_s1 fun _ => rfl
theorem g238_131 (c : rz_fR h a 12 25) : rg Z d rx_m238 131 L (.ref a :: S) (rz_mk h ι, w) = rg Z d rx_m238 134 L (rz_rv h a 25 :: S) (rz_mk h ι, w) := rz_gR rfl (by decide) c
theorem g238_134 : rg Z d rx_m238 134 [l0, some (.int x), l2] S (rz_mk h ι, w) = rg Z d rx_m238 135 [l0, some (.int x), l2] (.int x :: S) (rz_mk h ι, w) := rz_s1 fun _ => rfl
theorem g238_135 : rg Z d rx_m238 135 L (v2 :: v1 :: []) (rz_mk h ι, w) = rz_k true (rz_f Z d 219 [v1, v2] (rz_mk h ι, w)) (fun v σ' => rg Z d rx_m238 138 L (v.toList ++ []) σ') := rz_cs (pc := 135) (n := 2) (mi := 219) (S := v2 :: v1 :: []) (rest := []) rfl rfl (Nat.le_of_ble_eq_true rfl) (Nat.le_of_ble_eq_true rfl)
theorem g238_138 : rg Z d rx_m238 138 L S (rz_mk h ι, w) = rg Z d rx_m238 150 L S (rz_mk h ι, w) := rz_s1 fun _ => rfl
theorem g238_141 : rg Z d rx_m238 141 [some (.ref a), l1, l2] S (rz_mk h ι, w) = rg Z d rx_m238 142 [some (.ref a), l1, l2] (.ref a :: S) (rz_mk h ι, w) := rz_s1 fun _ => rfl
theorem g238_142 : rg Z d rx_m238 142 [some (.ref a), l1, l2] S (rz_mk h ι, w) = rg Z d rx_m238 143 [some (.ref a), l1, l2] (.ref a :: S) (rz_mk h ι, w) := rz_s1 fun _ => rfl
theorem g238_143 (c : rz_fR h a 12 25) : rg Z d rx_m238 143 L (.ref a :: S) (rz_mk h ι, w) = rg Z d rx_m238 146 L (rz_rv h a 25 :: S) (rz_mk h ι, w) := rz_gR rfl (by decide) c
theorem g238_146 : rg Z d rx_m238 146 [l0, some (.int x), l2] S (rz_mk h ι, w) = rg Z d rx_m238 147 [l0, some (.int x), l2] (.int x :: S) (rz_mk h ι, w) := rz_s1 fun _ => rfl
theorem g238_147 (c : rz_oc h a 12) : rg Z d rx_m238 147 L (v2 :: v1 :: .ref a :: []) (rz_mk h ι, w) = rz_k true (rz_f Z d 237 [.ref a, v1, v2] (rz_mk h ι, w)) (fun v σ' => rg Z d rx_m238 150 L (v.toList ++ []) σ') := rz_cv (pc := 147) (n := 2) (mi := 237) (S := v2 :: v1 :: .ref a :: []) (rest := []) rfl rfl (Nat.le_of_ble_eq_true rfl) (Nat.le_of_ble_eq_true rfl) c
theorem g238_150 : rg Z d rx_m238 150 L [.int x] (rz_mk h ι, w) = some (.inl (some (.int x)), (rz_mk h ι, w)) := rz_reti rfl rfl rfl
theorem e238 : rz_f Z (d + 1) 238 [.ref t0, .int s1, .int s2] σ = rg Z d rx_m238 0 [some (.ref t0), some (.int s1), some (.int s2)] [] σ := rz_f_eq rfl (Nat.le_of_ble_eq_true rfl)
theorem g239_0 : rg Z d rx_m239 0 [some (.ref a), l1, l2] S (rz_mk h ι, w) = rg Z d rx_m239 1 [some (.ref a), l1, l2] (.ref a :: S) (rz_mk h ι, w) := rz_s1 fun _ => rfl
theorem g239_1 : rg Z d rx_m239 1 L S (rz_mk h ι, w) = rg Z d rx_m239 2 L (.int 0 :: S) (rz_mk h ι, w) := rz_s1 fun _ => rfl
theorem g239_2 (c : rz_fI h a 12 0) (hz : Z.2.1 ≤ a) : rg Z d rx_m239 2 L (.int x :: .ref a :: S) (rz_mk h ι, w) = rg Z d rx_m239 5 L S (rz_mk h (rz_up ι a 0 x), w) := rz_pI rfl c hz
theorem g239_5 : rg Z d rx_m239 5 [some (.ref a), l1, l2] S (rz_mk h ι, w) = rg Z d rx_m239 6 [some (.ref a), l1, l2] (.ref a :: S) (rz_mk h ι, w) := rz_s1 fun _ => rfl
theorem g239_6 : rg Z d rx_m239 6 [some (.ref a), l1, l2] S (rz_mk h ι, w) = rg Z d rx_m239 7 [some (.ref a), l1, l2] (.ref a :: S) (rz_mk h ι, w) := rz_s1 fun _ => rfl
theorem g239_7 : rg Z d rx_m239 7 [l0, some (.int x), l2] S (rz_mk h ι, w) = rg Z d rx_m239 8 [l0, some (.int x), l2] (.int x :: S) (rz_mk h ι, w) := rz_s1 fun _ => rfl
theorem g239_8 (c : rz_oc h a 12) : rg Z d rx_m239 8 L (v1 :: .ref a :: [.ref t0]) (rz_mk h ι, w) = rz_k true (rz_f Z d 236 [.ref a, v1] (rz_mk h ι, w)) (fun v σ' => rg Z d rx_m239 11 L (v.toList ++ [.ref t0]) σ') := rz_cv (pc := 8) (n := 1) (mi := 236) (S := v1 :: .ref a :: [.ref t0]) (rest := [.ref t0]) rfl rfl (Nat.le_of_ble_eq_true rfl) (Nat.le_of_ble_eq_true rfl) c
theorem g239_11 : rg Z d rx_m239 11 L (.int x :: S) (rz_mk h ι, w) = if x = 0 then rg Z d rx_m239 22 L S (rz_mk h ι, w) else rg Z d rx_m239 14 L S (rz_mk h ι, w) := rz_if1 (pc := 11) (t := 22) (off := 11) (cc := .eq) (by decide) rfl
theorem g239_14 : rg Z d rx_m239 14 [some (.ref a), l1, l2] S (rz_mk h ι, w) = rg Z d rx_m239 15 [some (.ref a), l1, l2] (.ref a :: S) (rz_mk h ι, w) := rz_s1 fun _ => rfl
theorem g239_15 : rg Z d rx_m239 15 [l0, l1, some (.int x)] S (rz_mk h ι, w) = rg Z d rx_m239 16 [l0, l1, some (.int x)] (.int x :: S) (rz_mk h ι, w) := rz_s1 fun _ => rfl
theorem g239_16 (c : rz_oc h a 12) : rg Z d rx_m239 16 L (v1 :: .ref a :: [.ref t0]) (rz_mk h ι, w) = rz_k true (rz_f Z d 236 [.ref a, v1] (rz_mk h ι, w)) (fun v σ' => rg Z d rx_m239 19 L (v.toList ++ [.ref t0]) σ') := rz_cv (pc := 16) (n := 1) (mi := 236) (S := v1 :: .ref a :: [.ref t0]) (rest := [.ref t0]) rfl rfl (Nat.le_of_ble_eq_true rfl) (Nat.le_of_ble_eq_true rfl) c
theorem g239_19 : rg Z d rx_m239 19 L (.int x :: S) (rz_mk h ι, w) = if x = 0 then rg Z d rx_m239 22 L S (rz_mk h ι, w) else rg Z d rx_m239 26 L S (rz_mk h ι, w) := rz_if1 (pc := 19) (t := 26) (off := 7) (cc := .ne) (by decide) rfl
theorem g239_22 : rg Z d rx_m239 22 L S (rz_mk h ι, w) = rg Z d rx_m239 23 L (.int 1 :: S) (rz_mk h ι, w) := rz_s1 fun _ => rfl
theorem g239_23 : rg Z d rx_m239 23 L S (rz_mk h ι, w) = rg Z d rx_m239 27 L S (rz_mk h ι, w) := rz_s1 fun _ => rfl
theorem g239_26 : rg Z d rx_m239 26 L S (rz_mk h ι, w) = rg Z d rx_m239 27 L (.int 0 :: S) (rz_mk h ι, w) := rz_s1 fun _ => rfl
theorem g239_27 : rg Z d rx_m239 27 L S (rz_mk h ι, w) = rg Z d rx_m239 28 L (.int 1 :: S) (rz_mk h ι, w) := rz_s1 fun _ => rfl
theorem g239_28 : rg Z d rx_m239 28 L S (rz_mk h ι, w) = rg Z d rx_m239 29 L (.int 0 :: S) (rz_mk h ι, w) := rz_s1 fun _ => rfl
theorem g239_29 (c : rz_oc h a 12) : rg Z d rx_m239 29 L (v3 :: v2 :: v1 :: .ref a :: []) (rz_mk h ι, w) = rz_k true (rz_f Z d 174 [.ref a, v1, v2, v3] (rz_mk h ι, w)) (fun v σ' => rg Z d rx_m239 32 L (v.toList ++ []) σ') := rz_cv (pc := 29) (n := 3) (mi := 174) (S := v3 :: v2 :: v1 :: .ref a :: []) (rest := []) rfl rfl (Nat.le_of_ble_eq_true rfl) (Nat.le_of_ble_eq_true rfl) c
theorem g239_32 : rg Z d rx_m239 32 L (.int x :: S) (rz_mk h ι, w) = if x = 0 then rg Z d rx_m239 37 L S (rz_mk h ι, w) else rg Z d rx_m239 35 L S (rz_mk h ι, w) := rz_if1 (pc := 32) (t := 37) (off := 5) (cc := .eq) (by decide) rfl
theorem g239_35 : rg Z d rx_m239 35 L S (rz_mk h ι, w) = rg Z d rx_m239 36 L (.int 0 :: S) (rz_mk h ι, w) := rz_s1 fun _ => rfl
theorem g239_36 : rg Z d rx_m239 36 L [.int x] (rz_mk h ι, w) = some (.inl (some (.int x)), (rz_mk h ι, w)) := rz_reti rfl rfl rfl
theorem g239_37 : rg Z d rx_m239 37 [some (.ref a), l1, l2] S (rz_mk h ι, w) = rg Z d rx_m239 38 [some (.ref a), l1, l2] (.ref a :: S) (rz_mk h ι, w) := rz_s1 fun _ => rfl
theorem g239_38 : rg Z d rx_m239 38 [some (.ref a), l1, l2] S (rz_mk h ι, w) = rg Z d rx_m239 39 [some (.ref a), l1, l2] (.ref a :: S) (rz_mk h ι, w) := rz_s1 fun _ => rfl
theorem g239_39 (c : rz_fR h a 12 25) : rg Z d rx_m239 39 L (.ref a :: S) (rz_mk h ι, w) = rg Z d rx_m239 42 L (rz_rv h a 25 :: S) (rz_mk h ι, w) := rz_gR rfl (by decide) c
theorem g239_42 : rg Z d rx_m239 42 [l0, some (.int x), l2] S (rz_mk h ι, w) = rg Z d rx_m239 43 [l0, some (.int x), l2] (.int x :: S) (rz_mk h ι, w) := rz_s1 fun _ => rfl
theorem g239_43 : rg Z d rx_m239 43 [l0, l1, some (.int x)] S (rz_mk h ι, w) = rg Z d rx_m239 44 [l0, l1, some (.int x)] (.int x :: S) (rz_mk h ι, w) := rz_s1 fun _ => rfl
theorem g239_44 (c : rz_oc h a 12) : rg Z d rx_m239 44 L (v3 :: v2 :: v1 :: .ref a :: []) (rz_mk h ι, w) = rz_k true (rz_f Z d 221 [.ref a, v1, v2, v3] (rz_mk h ι, w)) (fun v σ' => rg Z d rx_m239 47 L (v.toList ++ []) σ') := rz_cv (pc := 44) (n := 3) (mi := 221) (S := v3 :: v2 :: v1 :: .ref a :: []) (rest := []) rfl rfl (Nat.le_of_ble_eq_true rfl) (Nat.le_of_ble_eq_true rfl) c
theorem g239_47 : rg Z d rx_m239 47 L [.int x] (rz_mk h ι, w) = some (.inl (some (.int x)), (rz_mk h ι, w)) := rz_reti rfl rfl rfl
theorem e239 : rz_f Z (d + 1) 239 [.ref t0, .int s1, .int s2] σ = rg Z d rx_m239 0 [some (.ref t0), some (.int s1), some (.int s2)] [] σ := rz_f_eq rfl (Nat.le_of_ble_eq_true rfl)
theorem g240_0 : rg Z d rx_m240 0 [some (.ref a), l1, l2, l3, l4, l5, l6, l7, l8] S (rz_mk h ι, w) = rg Z d rx_m240 1 [some (.ref a), l1, l2, l3, l4, l5, l6, l7, l8] (.ref a :: S) (rz_mk h ι, w) := rz_s1 fun _ => rfl
theorem g240_1 : rg Z d rx_m240 1 L S (rz_mk h ι, w) = rg Z d rx_m240 2 L (.int 0 :: S) (rz_mk h ι, w) := rz_s1 fun _ => rfl
theorem g240_2 (c : rz_fI h a 12 0) (hz : Z.2.1 ≤ a) : rg Z d rx_m240 2 L (.int x :: .ref a :: S) (rz_mk h ι, w) = rg Z d rx_m240 5 L S (rz_mk h (rz_up ι a 0 x), w) := rz_pI rfl c hz
theorem g240_5 : rg Z d rx_m240 5 [some (.ref a), l1, l2, l3, l4, l5, l6, l7, l8] S (rz_mk h ι, w) = rg Z d rx_m240 6 [some (.ref a), l1, l2, l3, l4, l5, l6, l7, l8] (.ref a :: S) (rz_mk h ι, w) := rz_s1 fun _ => rfl
theorem g240_6 : rg Z d rx_m240 6 [l0, some (.int x), l2, l3, l4, l5, l6, l7, l8] S (rz_mk h ι, w) = rg Z d rx_m240 7 [l0, some (.int x), l2, l3, l4, l5, l6, l7, l8] (.int x :: S) (rz_mk h ι, w) := rz_s1 fun _ => rfl
theorem g240_7 : rg Z d rx_m240 7 L S (rz_mk h ι, w) = rg Z d rx_m240 8 L (.int 0 :: S) (rz_mk h ι, w) := rz_s1 fun _ => rfl
theorem g240_8 : rg Z d rx_m240 8 L S (rz_mk h ι, w) = rg Z d rx_m240 10 L (.int 9 :: S) (rz_mk h ι, w) := rz_s1 fun _ => rfl
theorem g240_10 : rg Z d rx_m240 10 L (v3 :: v2 :: v1 :: [.ref t0]) (rz_mk h ι, w) = rz_k true (rz_f Z d 175 [v1, v2, v3] (rz_mk h ι, w)) (fun v σ' => rg Z d rx_m240 13 L (v.toList ++ [.ref t0]) σ') := rz_cs (pc := 10) (n := 3) (mi := 175) (S := v3 :: v2 :: v1 :: [.ref t0]) (rest := [.ref t0]) rfl rfl (Nat.le_of_ble_eq_true rfl) (Nat.le_of_ble_eq_true rfl)
theorem g240_13 : rg Z d rx_m240 13 L (.int x :: S) (rz_mk h ι, w) = if x = 0 then rg Z d rx_m240 93 L S (rz_mk h ι, w) else rg Z d rx_m240 16 L S (rz_mk h ι, w) := rz_if1 (pc := 13) (t := 93) (off := 80) (cc := .eq) (by decide) rfl
theorem g240_16 : rg Z d rx_m240 16 [l0, l1, some (.int x), l3, l4, l5, l6, l7, l8] S (rz_mk h ι, w) = rg Z d rx_m240 17 [l0, l1, some (.int x), l3, l4, l5, l6, l7, l8] (.int x :: S) (rz_mk h ι, w) := rz_s1 fun _ => rfl
theorem g240_17 : rg Z d rx_m240 17 L S (rz_mk h ι, w) = rg Z d rx_m240 18 L (.int 0 :: S) (rz_mk h ι, w) := rz_s1 fun _ => rfl
theorem g240_18 : rg Z d rx_m240 18 L S (rz_mk h ι, w) = rg Z d rx_m240 20 L (.int 9 :: S) (rz_mk h ι, w) := rz_s1 fun _ => rfl
theorem g240_20 : rg Z d rx_m240 20 L (v3 :: v2 :: v1 :: [.ref t0]) (rz_mk h ι, w) = rz_k true (rz_f Z d 175 [v1, v2, v3] (rz_mk h ι, w)) (fun v σ' => rg Z d rx_m240 23 L (v.toList ++ [.ref t0]) σ') := rz_cs (pc := 20) (n := 3) (mi := 175) (S := v3 :: v2 :: v1 :: [.ref t0]) (rest := [.ref t0]) rfl rfl (Nat.le_of_ble_eq_true rfl) (Nat.le_of_ble_eq_true rfl)
theorem g240_23 : rg Z d rx_m240 23 L (.int x :: S) (rz_mk h ι, w) = if x = 0 then rg Z d rx_m240 93 L S (rz_mk h ι, w) else rg Z d rx_m240 26 L S (rz_mk h ι, w) := rz_if1 (pc := 23) (t := 93) (off := 70) (cc := .eq) (by decide) rfl
theorem g240_26 : rg Z d rx_m240 26 [l0, l1, l2, some (.int x), l4, l5, l6, l7, l8] S (rz_mk h ι, w) = rg Z d rx_m240 27 [l0, l1, l2, some (.int x), l4, l5, l6, l7, l8] (.int x :: S) (rz_mk h ι, w) := rz_s1 fun _ => rfl
theorem g240_27 : rg Z d rx_m240 27 L S (rz_mk h ι, w) = rg Z d rx_m240 28 L (.int 0 :: S) (rz_mk h ι, w) := rz_s1 fun _ => rfl
theorem g240_28 : rg Z d rx_m240 28 L S (rz_mk h ι, w) = rg Z d rx_m240 30 L (.int 9 :: S) (rz_mk h ι, w) := rz_s1 fun _ => rfl
theorem g240_30 : rg Z d rx_m240 30 L (v3 :: v2 :: v1 :: [.ref t0]) (rz_mk h ι, w) = rz_k true (rz_f Z d 175 [v1, v2, v3] (rz_mk h ι, w)) (fun v σ' => rg Z d rx_m240 33 L (v.toList ++ [.ref t0]) σ') := rz_cs (pc := 30) (n := 3) (mi := 175) (S := v3 :: v2 :: v1 :: [.ref t0]) (rest := [.ref t0]) rfl rfl (Nat.le_of_ble_eq_true rfl) (Nat.le_of_ble_eq_true rfl)
theorem g240_33 : rg Z d rx_m240 33 L (.int x :: S) (rz_mk h ι, w) = if x = 0 then rg Z d rx_m240 93 L S (rz_mk h ι, w) else rg Z d rx_m240 36 L S (rz_mk h ι, w) := rz_if1 (pc := 33) (t := 93) (off := 60) (cc := .eq) (by decide) rfl
theorem g240_36 : rg Z d rx_m240 36 [l0, l1, l2, l3, some (.int x), l5, l6, l7, l8] S (rz_mk h ι, w) = rg Z d rx_m240 38 [l0, l1, l2, l3, some (.int x), l5, l6, l7, l8] (.int x :: S) (rz_mk h ι, w) := rz_s1 fun _ => rfl
theorem g240_38 : rg Z d rx_m240 38 L S (rz_mk h ι, w) = rg Z d rx_m240 39 L (.int 0 :: S) (rz_mk h ι, w) := rz_s1 fun _ => rfl
theorem g240_39 : rg Z d rx_m240 39 L S (rz_mk h ι, w) = rg Z d rx_m240 40 L (.int 3 :: S) (rz_mk h ι, w) := rz_s1 fun _ => rfl
theorem g240_40 : rg Z d rx_m240 40 L (v3 :: v2 :: v1 :: [.ref t0]) (rz_mk h ι, w) = rz_k true (rz_f Z d 175 [v1, v2, v3] (rz_mk h ι, w)) (fun v σ' => rg Z d rx_m240 43 L (v.toList ++ [.ref t0]) σ') := rz_cs (pc := 40) (n := 3) (mi := 175) (S := v3 :: v2 :: v1 :: [.ref t0]) (rest := [.ref t0]) rfl rfl (Nat.le_of_ble_eq_true rfl) (Nat.le_of_ble_eq_true rfl)
theorem g240_43 : rg Z d rx_m240 43 L (.int x :: S) (rz_mk h ι, w) = if x = 0 then rg Z d rx_m240 93 L S (rz_mk h ι, w) else rg Z d rx_m240 46 L S (rz_mk h ι, w) := rz_if1 (pc := 43) (t := 93) (off := 50) (cc := .eq) (by decide) rfl
theorem g240_46 : rg Z d rx_m240 46 [l0, l1, l2, l3, l4, some (.int x), l6, l7, l8] S (rz_mk h ι, w) = rg Z d rx_m240 48 [l0, l1, l2, l3, l4, some (.int x), l6, l7, l8] (.int x :: S) (rz_mk h ι, w) := rz_s1 fun _ => rfl
theorem g240_48 : rg Z d rx_m240 48 L S (rz_mk h ι, w) = rg Z d rx_m240 49 L (.int 0 :: S) (rz_mk h ι, w) := rz_s1 fun _ => rfl
theorem g240_49 : rg Z d rx_m240 49 L S (rz_mk h ι, w) = rg Z d rx_m240 52 L (.int 999 :: S) (rz_mk h ι, w) := rz_s1 fun _ => rfl
theorem g240_52 : rg Z d rx_m240 52 L (v3 :: v2 :: v1 :: [.ref t0]) (rz_mk h ι, w) = rz_k true (rz_f Z d 175 [v1, v2, v3] (rz_mk h ι, w)) (fun v σ' => rg Z d rx_m240 55 L (v.toList ++ [.ref t0]) σ') := rz_cs (pc := 52) (n := 3) (mi := 175) (S := v3 :: v2 :: v1 :: [.ref t0]) (rest := [.ref t0]) rfl rfl (Nat.le_of_ble_eq_true rfl) (Nat.le_of_ble_eq_true rfl)
theorem g240_55 : rg Z d rx_m240 55 L (.int x :: S) (rz_mk h ι, w) = if x = 0 then rg Z d rx_m240 93 L S (rz_mk h ι, w) else rg Z d rx_m240 58 L S (rz_mk h ι, w) := rz_if1 (pc := 55) (t := 93) (off := 38) (cc := .eq) (by decide) rfl
theorem g240_58 : rg Z d rx_m240 58 [l0, l1, l2, l3, l4, l5, some (.int x), l7, l8] S (rz_mk h ι, w) = rg Z d rx_m240 60 [l0, l1, l2, l3, l4, l5, some (.int x), l7, l8] (.int x :: S) (rz_mk h ι, w) := rz_s1 fun _ => rfl
theorem g240_60 : rg Z d rx_m240 60 L S (rz_mk h ι, w) = rg Z d rx_m240 61 L (.int 0 :: S) (rz_mk h ι, w) := rz_s1 fun _ => rfl
theorem g240_61 : rg Z d rx_m240 61 L S (rz_mk h ι, w) = rg Z d rx_m240 64 L (.int 900 :: S) (rz_mk h ι, w) := rz_s1 fun _ => rfl
theorem g240_64 : rg Z d rx_m240 64 L (v3 :: v2 :: v1 :: [.ref t0]) (rz_mk h ι, w) = rz_k true (rz_f Z d 175 [v1, v2, v3] (rz_mk h ι, w)) (fun v σ' => rg Z d rx_m240 67 L (v.toList ++ [.ref t0]) σ') := rz_cs (pc := 64) (n := 3) (mi := 175) (S := v3 :: v2 :: v1 :: [.ref t0]) (rest := [.ref t0]) rfl rfl (Nat.le_of_ble_eq_true rfl) (Nat.le_of_ble_eq_true rfl)
theorem g240_67 : rg Z d rx_m240 67 L (.int x :: S) (rz_mk h ι, w) = if x = 0 then rg Z d rx_m240 93 L S (rz_mk h ι, w) else rg Z d rx_m240 70 L S (rz_mk h ι, w) := rz_if1 (pc := 67) (t := 93) (off := 26) (cc := .eq) (by decide) rfl
theorem g240_70 : rg Z d rx_m240 70 [l0, l1, l2, l3, l4, l5, l6, some (.int x), l8] S (rz_mk h ι, w) = rg Z d rx_m240 72 [l0, l1, l2, l3, l4, l5, l6, some (.int x), l8] (.int x :: S) (rz_mk h ι, w) := rz_s1 fun _ => rfl
theorem g240_72 : rg Z d rx_m240 72 L S (rz_mk h ι, w) = rg Z d rx_m240 73 L (.int 0 :: S) (rz_mk h ι, w) := rz_s1 fun _ => rfl
theorem g240_73 : rg Z d rx_m240 73 L S (rz_mk h ι, w) = rg Z d rx_m240 76 L (.int 900 :: S) (rz_mk h ι, w) := rz_s1 fun _ => rfl
theorem g240_76 : rg Z d rx_m240 76 L (v3 :: v2 :: v1 :: [.ref t0]) (rz_mk h ι, w) = rz_k true (rz_f Z d 175 [v1, v2, v3] (rz_mk h ι, w)) (fun v σ' => rg Z d rx_m240 79 L (v.toList ++ [.ref t0]) σ') := rz_cs (pc := 76) (n := 3) (mi := 175) (S := v3 :: v2 :: v1 :: [.ref t0]) (rest := [.ref t0]) rfl rfl (Nat.le_of_ble_eq_true rfl) (Nat.le_of_ble_eq_true rfl)
theorem g240_79 : rg Z d rx_m240 79 L (.int x :: S) (rz_mk h ι, w) = if x = 0 then rg Z d rx_m240 93 L S (rz_mk h ι, w) else rg Z d rx_m240 82 L S (rz_mk h ι, w) := rz_if1 (pc := 79) (t := 93) (off := 14) (cc := .eq) (by decide) rfl
theorem g240_82 : rg Z d rx_m240 82 [l0, l1, l2, l3, l4, l5, l6, l7, some (.int x)] S (rz_mk h ι, w) = rg Z d rx_m240 84 [l0, l1, l2, l3, l4, l5, l6, l7, some (.int x)] (.int x :: S) (rz_mk h ι, w) := rz_s1 fun _ => rfl
theorem g240_84 : rg Z d rx_m240 84 L S (rz_mk h ι, w) = rg Z d rx_m240 85 L (.int 0 :: S) (rz_mk h ι, w) := rz_s1 fun _ => rfl
theorem g240_85 : rg Z d rx_m240 85 L S (rz_mk h ι, w) = rg Z d rx_m240 87 L (.int 8 :: S) (rz_mk h ι, w) := rz_s1 fun _ => rfl
theorem g240_87 : rg Z d rx_m240 87 L (v3 :: v2 :: v1 :: [.ref t0]) (rz_mk h ι, w) = rz_k true (rz_f Z d 175 [v1, v2, v3] (rz_mk h ι, w)) (fun v σ' => rg Z d rx_m240 90 L (v.toList ++ [.ref t0]) σ') := rz_cs (pc := 87) (n := 3) (mi := 175) (S := v3 :: v2 :: v1 :: [.ref t0]) (rest := [.ref t0]) rfl rfl (Nat.le_of_ble_eq_true rfl) (Nat.le_of_ble_eq_true rfl)
theorem g240_90 : rg Z d rx_m240 90 L (.int x :: S) (rz_mk h ι, w) = if x = 0 then rg Z d rx_m240 93 L S (rz_mk h ι, w) else rg Z d rx_m240 97 L S (rz_mk h ι, w) := rz_if1 (pc := 90) (t := 97) (off := 7) (cc := .ne) (by decide) rfl
theorem g240_93 : rg Z d rx_m240 93 L S (rz_mk h ι, w) = rg Z d rx_m240 94 L (.int 1 :: S) (rz_mk h ι, w) := rz_s1 fun _ => rfl
theorem g240_94 : rg Z d rx_m240 94 L S (rz_mk h ι, w) = rg Z d rx_m240 98 L S (rz_mk h ι, w) := rz_s1 fun _ => rfl
theorem g240_97 : rg Z d rx_m240 97 L S (rz_mk h ι, w) = rg Z d rx_m240 98 L (.int 0 :: S) (rz_mk h ι, w) := rz_s1 fun _ => rfl
theorem g240_98 : rg Z d rx_m240 98 L S (rz_mk h ι, w) = rg Z d rx_m240 99 L (.int 1 :: S) (rz_mk h ι, w) := rz_s1 fun _ => rfl
theorem g240_99 : rg Z d rx_m240 99 L S (rz_mk h ι, w) = rg Z d rx_m240 100 L (.int 1 :: S) (rz_mk h ι, w) := rz_s1 fun _ => rfl
theorem g240_100 (c : rz_oc h a 12) : rg Z d rx_m240 100 L (v3 :: v2 :: v1 :: .ref a :: []) (rz_mk h ι, w) = rz_k true (rz_f Z d 174 [.ref a, v1, v2, v3] (rz_mk h ι, w)) (fun v σ' => rg Z d rx_m240 103 L (v.toList ++ []) σ') := rz_cv (pc := 100) (n := 3) (mi := 174) (S := v3 :: v2 :: v1 :: .ref a :: []) (rest := []) rfl rfl (Nat.le_of_ble_eq_true rfl) (Nat.le_of_ble_eq_true rfl) c
theorem g240_103 : rg Z d rx_m240 103 L (.int x :: S) (rz_mk h ι, w) = if x = 0 then rg Z d rx_m240 108 L S (rz_mk h ι, w) else rg Z d rx_m240 106 L S (rz_mk h ι, w) := rz_if1 (pc := 103) (t := 108) (off := 5) (cc := .eq) (by decide) rfl
theorem g240_106 : rg Z d rx_m240 106 L S (rz_mk h ι, w) = rg Z d rx_m240 107 L (.int 0 :: S) (rz_mk h ι, w) := rz_s1 fun _ => rfl
theorem g240_107 : rg Z d rx_m240 107 L [.int x] (rz_mk h ι, w) = some (.inl (some (.int x)), (rz_mk h ι, w)) := rz_reti rfl rfl rfl
theorem g240_108 : rg Z d rx_m240 108 [some (.ref a), l1, l2, l3, l4, l5, l6, l7, l8] S (rz_mk h ι, w) = rg Z d rx_m240 109 [some (.ref a), l1, l2, l3, l4, l5, l6, l7, l8] (.ref a :: S) (rz_mk h ι, w) := rz_s1 fun _ => rfl
theorem g240_109 : rg Z d rx_m240 109 [l0, some (.int x), l2, l3, l4, l5, l6, l7, l8] S (rz_mk h ι, w) = rg Z d rx_m240 110 [l0, some (.int x), l2, l3, l4, l5, l6, l7, l8] (.int x :: S) (rz_mk h ι, w) := rz_s1 fun _ => rfl
theorem g240_110 : rg Z d rx_m240 110 [l0, l1, some (.int x), l3, l4, l5, l6, l7, l8] S (rz_mk h ι, w) = rg Z d rx_m240 111 [l0, l1, some (.int x), l3, l4, l5, l6, l7, l8] (.int x :: S) (rz_mk h ι, w) := rz_s1 fun _ => rfl
theorem g240_111 : rg Z d rx_m240 111 [l0, l1, l2, some (.int x), l4, l5, l6, l7, l8] S (rz_mk h ι, w) = rg Z d rx_m240 112 [l0, l1, l2, some (.int x), l4, l5, l6, l7, l8] (.int x :: S) (rz_mk h ι, w) := rz_s1 fun _ => rfl
theorem g240_112 : rg Z d rx_m240 112 [l0, l1, l2, l3, some (.int x), l5, l6, l7, l8] S (rz_mk h ι, w) = rg Z d rx_m240 114 [l0, l1, l2, l3, some (.int x), l5, l6, l7, l8] (.int x :: S) (rz_mk h ι, w) := rz_s1 fun _ => rfl
theorem g240_114 : rg Z d rx_m240 114 [l0, l1, l2, l3, l4, some (.int x), l6, l7, l8] S (rz_mk h ι, w) = rg Z d rx_m240 116 [l0, l1, l2, l3, l4, some (.int x), l6, l7, l8] (.int x :: S) (rz_mk h ι, w) := rz_s1 fun _ => rfl
theorem g240_116 : rg Z d rx_m240 116 [l0, l1, l2, l3, l4, l5, some (.int x), l7, l8] S (rz_mk h ι, w) = rg Z d rx_m240 118 [l0, l1, l2, l3, l4, l5, some (.int x), l7, l8] (.int x :: S) (rz_mk h ι, w) := rz_s1 fun _ => rfl
theorem g240_118 : rg Z d rx_m240 118 [l0, l1, l2, l3, l4, l5, l6, some (.int x), l8] S (rz_mk h ι, w) = rg Z d rx_m240 120 [l0, l1, l2, l3, l4, l5, l6, some (.int x), l8] (.int x :: S) (rz_mk h ι, w) := rz_s1 fun _ => rfl
theorem g240_120 : rg Z d rx_m240 120 [l0, l1, l2, l3, l4, l5, l6, l7, some (.int x)] S (rz_mk h ι, w) = rg Z d rx_m240 122 [l0, l1, l2, l3, l4, l5, l6, l7, some (.int x)] (.int x :: S) (rz_mk h ι, w) := rz_s1 fun _ => rfl
theorem g240_122 (c : rz_oc h a 12) : rg Z d rx_m240 122 L (v8 :: v7 :: v6 :: v5 :: v4 :: v3 :: v2 :: v1 :: .ref a :: []) (rz_mk h ι, w) = rz_k true (rz_f Z d 214 [.ref a, v1, v2, v3, v4, v5, v6, v7, v8] (rz_mk h ι, w)) (fun v σ' => rg Z d rx_m240 125 L (v.toList ++ []) σ') := rz_cv (pc := 122) (n := 8) (mi := 214) (S := v8 :: v7 :: v6 :: v5 :: v4 :: v3 :: v2 :: v1 :: .ref a :: []) (rest := []) rfl rfl (Nat.le_of_ble_eq_true rfl) (Nat.le_of_ble_eq_true rfl) c
theorem g240_125 : rg Z d rx_m240 125 L [.int x] (rz_mk h ι, w) = some (.inl (some (.int x)), (rz_mk h ι, w)) := rz_reti rfl rfl rfl
theorem e240 : rz_f Z (d + 1) 240 [.ref t0, .int s1, .int s2, .int s3, .int s4, .int s5, .int s6, .int s7, .int s8] σ = rg Z d rx_m240 0 [some (.ref t0), some (.int s1), some (.int s2), some (.int s3), some (.int s4), some (.int s5), some (.int s6), some (.int s7), some (.int s8)] [] σ := rz_f_eq rfl (Nat.le_of_ble_eq_true rfl)
theorem g241_0 : rg Z d rx_m241 0 [some (.ref a), l1, l2, l3, l4, l5] S (rz_mk h ι, w) = rg Z d rx_m241 1 [some (.ref a), l1, l2, l3, l4, l5] (.ref a :: S) (rz_mk h ι, w) := rz_s1 fun _ => rfl
theorem g241_1 : rg Z d rx_m241 1 L S (rz_mk h ι, w) = rg Z d rx_m241 2 L (.int 0 :: S) (rz_mk h ι, w) := rz_s1 fun _ => rfl
theorem g241_2 (c : rz_fI h a 12 0) (hz : Z.2.1 ≤ a) : rg Z d rx_m241 2 L (.int x :: .ref a :: S) (rz_mk h ι, w) = rg Z d rx_m241 5 L S (rz_mk h (rz_up ι a 0 x), w) := rz_pI rfl c hz
theorem g241_5 : rg Z d rx_m241 5 [some (.ref a), l1, l2, l3, l4, l5] S (rz_mk h ι, w) = rg Z d rx_m241 6 [some (.ref a), l1, l2, l3, l4, l5] (.ref a :: S) (rz_mk h ι, w) := rz_s1 fun _ => rfl
theorem g241_6 : rg Z d rx_m241 6 [l0, some (.int x), l2, l3, l4, l5] S (rz_mk h ι, w) = rg Z d rx_m241 7 [l0, some (.int x), l2, l3, l4, l5] (.int x :: S) (rz_mk h ι, w) := rz_s1 fun _ => rfl
theorem g241_7 : rg Z d rx_m241 7 L S (rz_mk h ι, w) = rg Z d rx_m241 8 L (.int 0 :: S) (rz_mk h ι, w) := rz_s1 fun _ => rfl
theorem g241_8 : rg Z d rx_m241 8 L S (rz_mk h ι, w) = rg Z d rx_m241 10 L (.int 99 :: S) (rz_mk h ι, w) := rz_s1 fun _ => rfl
theorem g241_10 : rg Z d rx_m241 10 L (v3 :: v2 :: v1 :: [.ref t0]) (rz_mk h ι, w) = rz_k true (rz_f Z d 175 [v1, v2, v3] (rz_mk h ι, w)) (fun v σ' => rg Z d rx_m241 13 L (v.toList ++ [.ref t0]) σ') := rz_cs (pc := 10) (n := 3) (mi := 175) (S := v3 :: v2 :: v1 :: [.ref t0]) (rest := [.ref t0]) rfl rfl (Nat.le_of_ble_eq_true rfl) (Nat.le_of_ble_eq_true rfl)
theorem g241_13 : rg Z d rx_m241 13 L (.int x :: S) (rz_mk h ι, w) = if x = 0 then rg Z d rx_m241 25 L S (rz_mk h ι, w) else rg Z d rx_m241 16 L S (rz_mk h ι, w) := rz_if1 (pc := 13) (t := 25) (off := 12) (cc := .eq) (by decide) rfl
theorem g241_16 : rg Z d rx_m241 16 [l0, l1, some (.int x), l3, l4, l5] S (rz_mk h ι, w) = rg Z d rx_m241 17 [l0, l1, some (.int x), l3, l4, l5] (.int x :: S) (rz_mk h ι, w) := rz_s1 fun _ => rfl
theorem g241_17 : rg Z d rx_m241 17 L S (rz_mk h ι, w) = rg Z d rx_m241 18 L (.int 0 :: S) (rz_mk h ι, w) := rz_s1 fun _ => rfl
theorem g241_18 : rg Z d rx_m241 18 L S (rz_mk h ι, w) = rg Z d rx_m241 19 L (.int 2 :: S) (rz_mk h ι, w) := rz_s1 fun _ => rfl
theorem g241_19 : rg Z d rx_m241 19 L (v3 :: v2 :: v1 :: [.ref t0]) (rz_mk h ι, w) = rz_k true (rz_f Z d 175 [v1, v2, v3] (rz_mk h ι, w)) (fun v σ' => rg Z d rx_m241 22 L (v.toList ++ [.ref t0]) σ') := rz_cs (pc := 19) (n := 3) (mi := 175) (S := v3 :: v2 :: v1 :: [.ref t0]) (rest := [.ref t0]) rfl rfl (Nat.le_of_ble_eq_true rfl) (Nat.le_of_ble_eq_true rfl)
theorem g241_22 : rg Z d rx_m241 22 L (.int x :: S) (rz_mk h ι, w) = if x = 0 then rg Z d rx_m241 25 L S (rz_mk h ι, w) else rg Z d rx_m241 29 L S (rz_mk h ι, w) := rz_if1 (pc := 22) (t := 29) (off := 7) (cc := .ne) (by decide) rfl
theorem g241_25 : rg Z d rx_m241 25 L S (rz_mk h ι, w) = rg Z d rx_m241 26 L (.int 1 :: S) (rz_mk h ι, w) := rz_s1 fun _ => rfl
theorem g241_26 : rg Z d rx_m241 26 L S (rz_mk h ι, w) = rg Z d rx_m241 30 L S (rz_mk h ι, w) := rz_s1 fun _ => rfl
theorem g241_29 : rg Z d rx_m241 29 L S (rz_mk h ι, w) = rg Z d rx_m241 30 L (.int 0 :: S) (rz_mk h ι, w) := rz_s1 fun _ => rfl
theorem g241_30 : rg Z d rx_m241 30 L S (rz_mk h ι, w) = rg Z d rx_m241 31 L (.int 1 :: S) (rz_mk h ι, w) := rz_s1 fun _ => rfl
theorem g241_31 : rg Z d rx_m241 31 L S (rz_mk h ι, w) = rg Z d rx_m241 32 L (.int 1 :: S) (rz_mk h ι, w) := rz_s1 fun _ => rfl
theorem g241_32 (c : rz_oc h a 12) : rg Z d rx_m241 32 L (v3 :: v2 :: v1 :: .ref a :: []) (rz_mk h ι, w) = rz_k true (rz_f Z d 174 [.ref a, v1, v2, v3] (rz_mk h ι, w)) (fun v σ' => rg Z d rx_m241 35 L (v.toList ++ []) σ') := rz_cv (pc := 32) (n := 3) (mi := 174) (S := v3 :: v2 :: v1 :: .ref a :: []) (rest := []) rfl rfl (Nat.le_of_ble_eq_true rfl) (Nat.le_of_ble_eq_true rfl) c
theorem g241_35 : rg Z d rx_m241 35 L (.int x :: S) (rz_mk h ι, w) = if x = 0 then rg Z d rx_m241 40 L S (rz_mk h ι, w) else rg Z d rx_m241 38 L S (rz_mk h ι, w) := rz_if1 (pc := 35) (t := 40) (off := 5) (cc := .eq) (by decide) rfl
theorem g241_38 : rg Z d rx_m241 38 L S (rz_mk h ι, w) = rg Z d rx_m241 39 L (.int 0 :: S) (rz_mk h ι, w) := rz_s1 fun _ => rfl
theorem g241_39 : rg Z d rx_m241 39 L [.int x] (rz_mk h ι, w) = some (.inl (some (.int x)), (rz_mk h ι, w)) := rz_reti rfl rfl rfl
theorem g241_40 : rg Z d rx_m241 40 [some (.ref a), l1, l2, l3, l4, l5] S (rz_mk h ι, w) = rg Z d rx_m241 41 [some (.ref a), l1, l2, l3, l4, l5] (.ref a :: S) (rz_mk h ι, w) := rz_s1 fun _ => rfl
theorem g241_41 (c : rz_fR h a 12 25) : rg Z d rx_m241 41 L (.ref a :: S) (rz_mk h ι, w) = rg Z d rx_m241 44 L (rz_rv h a 25 :: S) (rz_mk h ι, w) := rz_gR rfl (by decide) c
theorem g241_44 : rg Z d rx_m241 44 [some (.ref a), l1, l2, l3, l4, l5] S (rz_mk h ι, w) = rg Z d rx_m241 45 [some (.ref a), l1, l2, l3, l4, l5] (.ref a :: S) (rz_mk h ι, w) := rz_s1 fun _ => rfl
theorem g241_45 (c : rz_fR h a 12 26) : rg Z d rx_m241 45 L (.ref a :: S) (rz_mk h ι, w) = rg Z d rx_m241 48 L (rz_rv h a 26 :: S) (rz_mk h ι, w) := rz_gR rfl (by decide) c
theorem g241_48 : rg Z d rx_m241 48 L (v2 :: v1 :: []) (rz_mk h ι, w) = rz_k true (rz_f Z d 199 [v1, v2] (rz_mk h ι, w)) (fun v σ' => rg Z d rx_m241 51 L (v.toList ++ []) σ') := rz_cs (pc := 48) (n := 2) (mi := 199) (S := v2 :: v1 :: []) (rest := []) rfl rfl (Nat.le_of_ble_eq_true rfl) (Nat.le_of_ble_eq_true rfl)
theorem g241_51 : rg Z d rx_m241 51 L S (rz_mk h ι, w) = rg Z d rx_m241 52 L (.int 0 :: S) (rz_mk h ι, w) := rz_s1 fun _ => rfl
theorem g241_52 : rg Z d rx_m241 52 [l0, l1, some (.int z), l3, l4, l5] (.int x :: S) (rz_mk h ι, w) = rg Z d rx_m241 53 [l0, l1, some (.int z), some (.int x), l4, l5] S (rz_mk h ι, w) := rz_s1 fun _ => rfl
theorem g241_53 : rg Z d rx_m241 53 [l0, l1, l2, some (.int x), l4, l5] S (rz_mk h ι, w) = rg Z d rx_m241 54 [l0, l1, l2, some (.int x), l4, l5] (.int x :: S) (rz_mk h ι, w) := rz_s1 fun _ => rfl
theorem g241_54 : rg Z d rx_m241 54 [l0, some (.int x), l2, l3, l4, l5] S (rz_mk h ι, w) = rg Z d rx_m241 55 [l0, some (.int x), l2, l3, l4, l5] (.int x :: S) (rz_mk h ι, w) := rz_s1 fun _ => rfl
theorem g241_55 : rg Z d rx_m241 55 L (.int y :: .int x :: S) (rz_mk h ι, w) = if x < y then rg Z d rx_m241 58 L S (rz_mk h ι, w) else rg Z d rx_m241 71 L S (rz_mk h ι, w) := rz_if2 (pc := 55) (t := 71) (off := 16) (cc := .ge) (by decide) rfl
theorem g241_58 : rg Z d rx_m241 58 [some (.ref a), l1, l2, l3, l4, l5] S (rz_mk h ι, w) = rg Z d rx_m241 59 [some (.ref a), l1, l2, l3, l4, l5] (.ref a :: S) (rz_mk h ι, w) := rz_s1 fun _ => rfl
theorem g241_59 (c : rz_fR h a 12 26) : rg Z d rx_m241 59 L (.ref a :: S) (rz_mk h ι, w) = rg Z d rx_m241 62 L (rz_rv h a 26 :: S) (rz_mk h ι, w) := rz_gR rfl (by decide) c
theorem g241_62 : rg Z d rx_m241 62 L (v1 :: []) (rz_mk h ι, w) = rz_k true (rz_f Z d 229 [v1] (rz_mk h ι, w)) (fun v σ' => rg Z d rx_m241 65 L (v.toList ++ []) σ') := rz_cs (pc := 62) (n := 1) (mi := 229) (S := v1 :: []) (rest := []) rfl rfl (Nat.le_of_ble_eq_true rfl) (Nat.le_of_ble_eq_true rfl)
theorem g241_65 : rg Z d rx_m241 65 [l0, l1, some (.int z), some (.int x), l4, l5] S (rz_mk h ι, w) = rg Z d rx_m241 68 [l0, l1, some (.int z), some (.int (x + 1)), l4, l5] S (rz_mk h ι, w) := rz_s1 fun _ => rfl
theorem g241_68 : rg Z d rx_m241 68 L S (rz_mk h ι, w) = rg Z d rx_m241 53 L S (rz_mk h ι, w) := rz_s1 fun _ => rfl
theorem g241_71 : rg Z d rx_m241 71 [some (.ref a), l1, l2, l3, l4, l5] S (rz_mk h ι, w) = rg Z d rx_m241 72 [some (.ref a), l1, l2, l3, l4, l5] (.ref a :: S) (rz_mk h ι, w) := rz_s1 fun _ => rfl
theorem g241_72 : rg Z d rx_m241 72 [some (.ref a), l1, l2, l3, l4, l5] S (rz_mk h ι, w) = rg Z d rx_m241 73 [some (.ref a), l1, l2, l3, l4, l5] (.ref a :: S) (rz_mk h ι, w) := rz_s1 fun _ => rfl
theorem g241_73 (c : rz_fR h a 12 26) : rg Z d rx_m241 73 L (.ref a :: S) (rz_mk h ι, w) = rg Z d rx_m241 76 L (rz_rv h a 26 :: S) (rz_mk h ι, w) := rz_gR rfl (by decide) c
theorem g241_76 (c : rz_oc h a 12) : rg Z d rx_m241 76 L (v1 :: .ref a :: []) (rz_mk h ι, w) = rz_k true (rz_f Z d 224 [.ref a, v1] (rz_mk h ι, w)) (fun v σ' => rg Z d rx_m241 79 L (v.toList ++ []) σ') := rz_cv (pc := 76) (n := 1) (mi := 224) (S := v1 :: .ref a :: []) (rest := []) rfl rfl (Nat.le_of_ble_eq_true rfl) (Nat.le_of_ble_eq_true rfl) c
theorem g241_79 : rg Z d rx_m241 79 [l0, l1, some (.int z), l3, l4, l5] (.int x :: S) (rz_mk h ι, w) = rg Z d rx_m241 80 [l0, l1, some (.int z), some (.int x), l4, l5] S (rz_mk h ι, w) := rz_s1 fun _ => rfl
theorem g241_80 : rg Z d rx_m241 80 L S (rz_mk h ι, w) = rg Z d rx_m241 81 L (.int 0 :: S) (rz_mk h ι, w) := rz_s1 fun _ => rfl
theorem g241_81 : rg Z d rx_m241 81 [l0, l1, l2, some (.int z), l4, l5] (.int x :: S) (rz_mk h ι, w) = rg Z d rx_m241 83 [l0, l1, l2, some (.int z), some (.int x), l5] S (rz_mk h ι, w) := rz_s1 fun _ => rfl
theorem g241_83 : rg Z d rx_m241 83 L S (rz_mk h ι, w) = rg Z d rx_m241 84 L (.int 0 :: S) (rz_mk h ι, w) := rz_s1 fun _ => rfl
theorem g241_84 : rg Z d rx_m241 84 [l0, l1, l2, l3, some (.int z), l5] (.int x :: S) (rz_mk h ι, w) = rg Z d rx_m241 86 [l0, l1, l2, l3, some (.int z), some (.int x)] S (rz_mk h ι, w) := rz_s1 fun _ => rfl
theorem g241_86 : rg Z d rx_m241 86 [l0, l1, l2, l3, l4, some (.int x)] S (rz_mk h ι, w) = rg Z d rx_m241 88 [l0, l1, l2, l3, l4, some (.int x)] (.int x :: S) (rz_mk h ι, w) := rz_s1 fun _ => rfl
theorem g241_88 : rg Z d rx_m241 88 [some (.ref a), l1, l2, l3, l4, l5] S (rz_mk h ι, w) = rg Z d rx_m241 89 [some (.ref a), l1, l2, l3, l4, l5] (.ref a :: S) (rz_mk h ι, w) := rz_s1 fun _ => rfl
theorem g241_89 (c : rz_fR h a 12 26) : rg Z d rx_m241 89 L (.ref a :: S) (rz_mk h ι, w) = rg Z d rx_m241 92 L (rz_rv h a 26 :: S) (rz_mk h ι, w) := rz_gR rfl (by decide) c
theorem g241_92 : rg Z d rx_m241 92 L S (rz_mk h ι, w) = rg Z d rx_m241 94 L (.int 57 :: S) (rz_mk h ι, w) := rz_s1 fun _ => rfl
theorem g241_94 (c : rz_ar h a 0) (hi : rz_ix x (rz_ln h a)) : rg Z d rx_m241 94 L (.int x :: .ref a :: S) (rz_mk h ι, w) = rg Z d rx_m241 95 L (.int (ι a x.toNatClampNeg) :: S) (rz_mk h ι, w) := rz_iald rfl c hi
theorem g241_95 : rg Z d rx_m241 95 L (.int y :: .int x :: S) (rz_mk h ι, w) = if x < y then rg Z d rx_m241 98 L S (rz_mk h ι, w) else rg Z d rx_m241 174 L S (rz_mk h ι, w) := rz_if2 (pc := 95) (t := 174) (off := 79) (cc := .ge) (by decide) rfl
theorem g241_98 : rg Z d rx_m241 98 [l0, l1, l2, l3, some (.int x), l5] S (rz_mk h ι, w) = rg Z d rx_m241 100 [l0, l1, l2, l3, some (.int x), l5] (.int x :: S) (rz_mk h ι, w) := rz_s1 fun _ => rfl
theorem g241_100 : rg Z d rx_m241 100 [some (.ref a), l1, l2, l3, l4, l5] S (rz_mk h ι, w) = rg Z d rx_m241 101 [some (.ref a), l1, l2, l3, l4, l5] (.ref a :: S) (rz_mk h ι, w) := rz_s1 fun _ => rfl
theorem g241_101 (c : rz_fR h a 12 26) : rg Z d rx_m241 101 L (.ref a :: S) (rz_mk h ι, w) = rg Z d rx_m241 104 L (rz_rv h a 26 :: S) (rz_mk h ι, w) := rz_gR rfl (by decide) c
theorem g241_104 : rg Z d rx_m241 104 [l0, l1, l2, l3, l4, some (.int x)] S (rz_mk h ι, w) = rg Z d rx_m241 106 [l0, l1, l2, l3, l4, some (.int x)] (.int x :: S) (rz_mk h ι, w) := rz_s1 fun _ => rfl
theorem g241_106 : rg Z d rx_m241 106 L (v2 :: v1 :: [.int s0]) (rz_mk h ι, w) = rz_k true (rz_f Z d 222 [v1, v2] (rz_mk h ι, w)) (fun v σ' => rg Z d rx_m241 109 L (v.toList ++ [.int s0]) σ') := rz_cs (pc := 106) (n := 2) (mi := 222) (S := v2 :: v1 :: [.int s0]) (rest := [.int s0]) rfl rfl (Nat.le_of_ble_eq_true rfl) (Nat.le_of_ble_eq_true rfl)
theorem g241_109 : rg Z d rx_m241 109 L (.int x :: S) (rz_mk h ι, w) = if x = 0 then rg Z d rx_m241 164 L S (rz_mk h ι, w) else rg Z d rx_m241 112 L S (rz_mk h ι, w) := rz_if1 (pc := 109) (t := 164) (off := 55) (cc := .eq) (by decide) rfl
theorem g241_112 : rg Z d rx_m241 112 [l0, l1, l2, l3, l4, some (.int x)] S (rz_mk h ι, w) = rg Z d rx_m241 114 [l0, l1, l2, l3, l4, some (.int x)] (.int x :: S) (rz_mk h ι, w) := rz_s1 fun _ => rfl
theorem g241_114 : rg Z d rx_m241 114 [some (.ref a), l1, l2, l3, l4, l5] S (rz_mk h ι, w) = rg Z d rx_m241 115 [some (.ref a), l1, l2, l3, l4, l5] (.ref a :: S) (rz_mk h ι, w) := rz_s1 fun _ => rfl
theorem g241_115 (c : rz_fR h a 12 26) : rg Z d rx_m241 115 L (.ref a :: S) (rz_mk h ι, w) = rg Z d rx_m241 118 L (rz_rv h a 26 :: S) (rz_mk h ι, w) := rz_gR rfl (by decide) c
theorem g241_118 : rg Z d rx_m241 118 L S (rz_mk h ι, w) = rg Z d rx_m241 120 L (.int 58 :: S) (rz_mk h ι, w) := rz_s1 fun _ => rfl
theorem g241_120 (c : rz_ar h a 0) (hi : rz_ix x (rz_ln h a)) : rg Z d rx_m241 120 L (.int x :: .ref a :: S) (rz_mk h ι, w) = rg Z d rx_m241 121 L (.int (ι a x.toNatClampNeg) :: S) (rz_mk h ι, w) := rz_iald rfl c hi
theorem g241_121 : rg Z d rx_m241 121 L (.int y :: .int x :: S) (rz_mk h ι, w) = if x = y then rg Z d rx_m241 164 L S (rz_mk h ι, w) else rg Z d rx_m241 124 L S (rz_mk h ι, w) := rz_if2 (pc := 121) (t := 164) (off := 43) (cc := .eq) (by decide) rfl
theorem g241_124 : rg Z d rx_m241 124 [some (.ref a), l1, l2, l3, l4, l5] S (rz_mk h ι, w) = rg Z d rx_m241 125 [some (.ref a), l1, l2, l3, l4, l5] (.ref a :: S) (rz_mk h ι, w) := rz_s1 fun _ => rfl
theorem g241_125 (c : rz_fR h a 12 26) : rg Z d rx_m241 125 L (.ref a :: S) (rz_mk h ι, w) = rg Z d rx_m241 128 L (rz_rv h a 26 :: S) (rz_mk h ι, w) := rz_gR rfl (by decide) c
theorem g241_128 : rg Z d rx_m241 128 L S (rz_mk h ι, w) = rg Z d rx_m241 130 L (.int 58 :: S) (rz_mk h ι, w) := rz_s1 fun _ => rfl
theorem g241_130 (c : rz_ar h a 0) (hi : rz_ix x (rz_ln h a)) : rg Z d rx_m241 130 L (.int x :: .ref a :: S) (rz_mk h ι, w) = rg Z d rx_m241 131 L (.int (ι a x.toNatClampNeg) :: S) (rz_mk h ι, w) := rz_iald rfl c hi
theorem g241_131 : rg Z d rx_m241 131 L S (rz_mk h ι, w) = rg Z d rx_m241 132 L (.int (-1) :: S) (rz_mk h ι, w) := rz_s1 fun _ => rfl
theorem g241_132 : rg Z d rx_m241 132 L (.int y :: .int x :: S) (rz_mk h ι, w) = if x = y then rg Z d rx_m241 164 L S (rz_mk h ι, w) else rg Z d rx_m241 135 L S (rz_mk h ι, w) := rz_if2 (pc := 132) (t := 164) (off := 32) (cc := .eq) (by decide) rfl
theorem g241_135 : rg Z d rx_m241 135 [some (.ref a), l1, l2, l3, l4, l5] S (rz_mk h ι, w) = rg Z d rx_m241 136 [some (.ref a), l1, l2, l3, l4, l5] (.ref a :: S) (rz_mk h ι, w) := rz_s1 fun _ => rfl
theorem g241_136 : rg Z d rx_m241 136 [some (.ref a), l1, l2, l3, l4, l5] S (rz_mk h ι, w) = rg Z d rx_m241 137 [some (.ref a), l1, l2, l3, l4, l5] (.ref a :: S) (rz_mk h ι, w) := rz_s1 fun _ => rfl
theorem g241_137 (c : rz_fR h a 12 26) : rg Z d rx_m241 137 L (.ref a :: S) (rz_mk h ι, w) = rg Z d rx_m241 140 L (rz_rv h a 26 :: S) (rz_mk h ι, w) := rz_gR rfl (by decide) c
theorem g241_140 : rg Z d rx_m241 140 [l0, l1, l2, l3, l4, some (.int x)] S (rz_mk h ι, w) = rg Z d rx_m241 142 [l0, l1, l2, l3, l4, some (.int x)] (.int x :: S) (rz_mk h ι, w) := rz_s1 fun _ => rfl
theorem g241_142 : rg Z d rx_m241 142 [some (.ref a), l1, l2, l3, l4, l5] S (rz_mk h ι, w) = rg Z d rx_m241 143 [some (.ref a), l1, l2, l3, l4, l5] (.ref a :: S) (rz_mk h ι, w) := rz_s1 fun _ => rfl
theorem g241_143 (c : rz_fR h a 12 26) : rg Z d rx_m241 143 L (.ref a :: S) (rz_mk h ι, w) = rg Z d rx_m241 146 L (rz_rv h a 26 :: S) (rz_mk h ι, w) := rz_gR rfl (by decide) c
theorem g241_146 : rg Z d rx_m241 146 L S (rz_mk h ι, w) = rg Z d rx_m241 148 L (.int 58 :: S) (rz_mk h ι, w) := rz_s1 fun _ => rfl
theorem g241_148 (c : rz_ar h a 0) (hi : rz_ix x (rz_ln h a)) : rg Z d rx_m241 148 L (.int x :: .ref a :: S) (rz_mk h ι, w) = rg Z d rx_m241 149 L (.int (ι a x.toNatClampNeg) :: S) (rz_mk h ι, w) := rz_iald rfl c hi
theorem g241_149 (c : rz_oc h a 12) : rg Z d rx_m241 149 L (v3 :: v2 :: v1 :: .ref a :: [.int s0]) (rz_mk h ι, w) = rz_k true (rz_f Z d 221 [.ref a, v1, v2, v3] (rz_mk h ι, w)) (fun v σ' => rg Z d rx_m241 152 L (v.toList ++ [.int s0]) σ') := rz_cv (pc := 149) (n := 3) (mi := 221) (S := v3 :: v2 :: v1 :: .ref a :: [.int s0]) (rest := [.int s0]) rfl rfl (Nat.le_of_ble_eq_true rfl) (Nat.le_of_ble_eq_true rfl) c
theorem g241_152 : rg Z d rx_m241 152 L S (rz_mk h ι, w) = rg Z d rx_m241 154 L (.int 20 :: S) (rz_mk h ι, w) := rz_s1 fun _ => rfl
theorem g241_154 : rg Z d rx_m241 154 L (.int y :: .int x :: S) (rz_mk h ι, w) = if x < y then rg Z d rx_m241 164 L S (rz_mk h ι, w) else rg Z d rx_m241 157 L S (rz_mk h ι, w) := rz_if2 (pc := 154) (t := 164) (off := 10) (cc := .lt) (by decide) rfl
theorem g241_157 : rg Z d rx_m241 157 L S (rz_mk h ι, w) = rg Z d rx_m241 158 L (.int 1 :: S) (rz_mk h ι, w) := rz_s1 fun _ => rfl
theorem g241_158 : rg Z d rx_m241 158 [l0, l1, l2, l3, l4, some (.int x)] S (rz_mk h ι, w) = rg Z d rx_m241 160 [l0, l1, l2, l3, l4, some (.int x)] (.int x :: S) (rz_mk h ι, w) := rz_s1 fun _ => rfl
theorem g241_160 : rg Z d rx_m241 160 L (.int y :: .int x :: S) (rz_mk h ι, w) = rg Z d rx_m241 161 L (.int (x <<< (y &&& 31)) :: S) (rz_mk h ι, w) := rz_s1 fun _ => rfl
theorem g241_161 : rg Z d rx_m241 161 L S (rz_mk h ι, w) = rg Z d rx_m241 165 L S (rz_mk h ι, w) := rz_s1 fun _ => rfl
theorem g241_164 : rg Z d rx_m241 164 L S (rz_mk h ι, w) = rg Z d rx_m241 165 L (.int 0 :: S) (rz_mk h ι, w) := rz_s1 fun _ => rfl
theorem g241_165 : rg Z d rx_m241 165 L (.int y :: .int x :: S) (rz_mk h ι, w) = rg Z d rx_m241 166 L (.int (x ||| y) :: S) (rz_mk h ι, w) := rz_s1 fun _ => rfl
theorem g241_166 : rg Z d rx_m241 166 [l0, l1, l2, some (.int z), l4, l5] (.int x :: S) (rz_mk h ι, w) = rg Z d rx_m241 168 [l0, l1, l2, some (.int z), some (.int x), l5] S (rz_mk h ι, w) := rz_s1 fun _ => rfl
theorem g241_168 : rg Z d rx_m241 168 [l0, l1, l2, l3, some (.int z), some (.int x)] S (rz_mk h ι, w) = rg Z d rx_m241 171 [l0, l1, l2, l3, some (.int z), some (.int (x + 1))] S (rz_mk h ι, w) := rz_s1 fun _ => rfl
theorem g241_171 : rg Z d rx_m241 171 L S (rz_mk h ι, w) = rg Z d rx_m241 86 L S (rz_mk h ι, w) := rz_s1 fun _ => rfl
theorem g241_174 : rg Z d rx_m241 174 [l0, l1, some (.int x), l3, l4, l5] S (rz_mk h ι, w) = rg Z d rx_m241 175 [l0, l1, some (.int x), l3, l4, l5] (.int x :: S) (rz_mk h ι, w) := rz_s1 fun _ => rfl
theorem g241_175 : rg Z d rx_m241 175 L (.int x :: S) (rz_mk h ι, w) = if x = 0 then rg Z d rx_m241 178 L S (rz_mk h ι, w) else rg Z d rx_m241 182 L S (rz_mk h ι, w) := rz_if1 (pc := 175) (t := 182) (off := 7) (cc := .ne) (by decide) rfl
theorem g241_178 : rg Z d rx_m241 178 [l0, l1, l2, some (.int x), l4, l5] S (rz_mk h ι, w) = rg Z d rx_m241 179 [l0, l1, l2, some (.int x), l4, l5] (.int x :: S) (rz_mk h ι, w) := rz_s1 fun _ => rfl
theorem g241_179 : rg Z d rx_m241 179 L S (rz_mk h ι, w) = rg Z d rx_m241 217 L S (rz_mk h ι, w) := rz_s1 fun _ => rfl
theorem g241_182 : rg Z d rx_m241 182 [l0, l1, some (.int x), l3, l4, l5] S (rz_mk h ι, w) = rg Z d rx_m241 183 [l0, l1, some (.int x), l3, l4, l5] (.int x :: S) (rz_mk h ι, w) := rz_s1 fun _ => rfl
theorem g241_183 : rg Z d rx_m241 183 L S (rz_mk h ι, w) = rg Z d rx_m241 184 L (.int 2 :: S) (rz_mk h ι, w) := rz_s1 fun _ => rfl
theorem g241_184 : rg Z d rx_m241 184 L (.int y :: .int x :: S) (rz_mk h ι, w) = if x = y then rg Z d rx_m241 187 L S (rz_mk h ι, w) else rg Z d rx_m241 192 L S (rz_mk h ι, w) := rz_if2 (pc := 184) (t := 192) (off := 8) (cc := .ne) (by decide) rfl
theorem g241_187 : rg Z d rx_m241 187 [l0, l1, l2, l3, some (.int x), l5] S (rz_mk h ι, w) = rg Z d rx_m241 189 [l0, l1, l2, l3, some (.int x), l5] (.int x :: S) (rz_mk h ι, w) := rz_s1 fun _ => rfl
theorem g241_189 : rg Z d rx_m241 189 L S (rz_mk h ι, w) = rg Z d rx_m241 217 L S (rz_mk h ι, w) := rz_s1 fun _ => rfl
theorem g241_192 : rg Z d rx_m241 192 [l0, l1, l2, some (.int x), l4, l5] S (rz_mk h ι, w) = rg Z d rx_m241 193 [l0, l1, l2, some (.int x), l4, l5] (.int x :: S) (rz_mk h ι, w) := rz_s1 fun _ => rfl
theorem g241_193 : rg Z d rx_m241 193 L S (rz_mk h ι, w) = rg Z d rx_m241 194 L (.int (-1) :: S) (rz_mk h ι, w) := rz_s1 fun _ => rfl
theorem g241_194 : rg Z d rx_m241 194 L (.int y :: .int x :: S) (rz_mk h ι, w) = if x = y then rg Z d rx_m241 197 L S (rz_mk h ι, w) else rg Z d rx_m241 201 L S (rz_mk h ι, w) := rz_if2 (pc := 194) (t := 201) (off := 7) (cc := .ne) (by decide) rfl
theorem g241_197 : rg Z d rx_m241 197 L S (rz_mk h ι, w) = rg Z d rx_m241 198 L (.int 0 :: S) (rz_mk h ι, w) := rz_s1 fun _ => rfl
theorem g241_198 : rg Z d rx_m241 198 L S (rz_mk h ι, w) = rg Z d rx_m241 217 L S (rz_mk h ι, w) := rz_s1 fun _ => rfl
theorem g241_201 : rg Z d rx_m241 201 [some (.ref a), l1, l2, l3, l4, l5] S (rz_mk h ι, w) = rg Z d rx_m241 202 [some (.ref a), l1, l2, l3, l4, l5] (.ref a :: S) (rz_mk h ι, w) := rz_s1 fun _ => rfl
theorem g241_202 : rg Z d rx_m241 202 [some (.ref a), l1, l2, l3, l4, l5] S (rz_mk h ι, w) = rg Z d rx_m241 203 [some (.ref a), l1, l2, l3, l4, l5] (.ref a :: S) (rz_mk h ι, w) := rz_s1 fun _ => rfl
theorem g241_203 (c : rz_fR h a 12 26) : rg Z d rx_m241 203 L (.ref a :: S) (rz_mk h ι, w) = rg Z d rx_m241 206 L (rz_rv h a 26 :: S) (rz_mk h ι, w) := rz_gR rfl (by decide) c
theorem g241_206 : rg Z d rx_m241 206 [l0, l1, l2, some (.int x), l4, l5] S (rz_mk h ι, w) = rg Z d rx_m241 207 [l0, l1, l2, some (.int x), l4, l5] (.int x :: S) (rz_mk h ι, w) := rz_s1 fun _ => rfl
theorem g241_207 : rg Z d rx_m241 207 [some (.ref a), l1, l2, l3, l4, l5] S (rz_mk h ι, w) = rg Z d rx_m241 208 [some (.ref a), l1, l2, l3, l4, l5] (.ref a :: S) (rz_mk h ι, w) := rz_s1 fun _ => rfl
theorem g241_208 (c : rz_fR h a 12 26) : rg Z d rx_m241 208 L (.ref a :: S) (rz_mk h ι, w) = rg Z d rx_m241 211 L (rz_rv h a 26 :: S) (rz_mk h ι, w) := rz_gR rfl (by decide) c
theorem g241_211 : rg Z d rx_m241 211 L S (rz_mk h ι, w) = rg Z d rx_m241 213 L (.int 58 :: S) (rz_mk h ι, w) := rz_s1 fun _ => rfl
theorem g241_213 (c : rz_ar h a 0) (hi : rz_ix x (rz_ln h a)) : rg Z d rx_m241 213 L (.int x :: .ref a :: S) (rz_mk h ι, w) = rg Z d rx_m241 214 L (.int (ι a x.toNatClampNeg) :: S) (rz_mk h ι, w) := rz_iald rfl c hi
theorem g241_214 (c : rz_oc h a 12) : rg Z d rx_m241 214 L (v3 :: v2 :: v1 :: .ref a :: []) (rz_mk h ι, w) = rz_k true (rz_f Z d 221 [.ref a, v1, v2, v3] (rz_mk h ι, w)) (fun v σ' => rg Z d rx_m241 217 L (v.toList ++ []) σ') := rz_cv (pc := 214) (n := 3) (mi := 221) (S := v3 :: v2 :: v1 :: .ref a :: []) (rest := []) rfl rfl (Nat.le_of_ble_eq_true rfl) (Nat.le_of_ble_eq_true rfl) c
theorem g241_217 : rg Z d rx_m241 217 L [.int x] (rz_mk h ι, w) = some (.inl (some (.int x)), (rz_mk h ι, w)) := rz_reti rfl rfl rfl
theorem e241 : rz_f Z (d + 1) 241 [.ref t0, .int s1, .int s2] σ = rg Z d rx_m241 0 [some (.ref t0), some (.int s1), some (.int s2), none, none, none] [] σ := rz_f_eq rfl (Nat.le_of_ble_eq_true rfl)
theorem g242_0 : rg Z d rx_m242 0 [some (.ref a), l1, l2] S (rz_mk h ι, w) = rg Z d rx_m242 1 [some (.ref a), l1, l2] (.ref a :: S) (rz_mk h ι, w) := rz_s1 fun _ => rfl
theorem g242_1 : rg Z d rx_m242 1 L S (rz_mk h ι, w) = rg Z d rx_m242 2 L (.int 0 :: S) (rz_mk h ι, w) := rz_s1 fun _ => rfl
theorem g242_2 (c : rz_fI h a 12 0) (hz : Z.2.1 ≤ a) : rg Z d rx_m242 2 L (.int x :: .ref a :: S) (rz_mk h ι, w) = rg Z d rx_m242 5 L S (rz_mk h (rz_up ι a 0 x), w) := rz_pI rfl c hz
theorem g242_5 : rg Z d rx_m242 5 [some (.ref a), l1, l2] S (rz_mk h ι, w) = rg Z d rx_m242 6 [some (.ref a), l1, l2] (.ref a :: S) (rz_mk h ι, w) := rz_s1 fun _ => rfl
theorem g242_6 : rg Z d rx_m242 6 [l0, some (.int x), l2] S (rz_mk h ι, w) = rg Z d rx_m242 7 [l0, some (.int x), l2] (.int x :: S) (rz_mk h ι, w) := rz_s1 fun _ => rfl
theorem g242_7 : rg Z d rx_m242 7 L S (rz_mk h ι, w) = rg Z d rx_m242 8 L (.int 0 :: S) (rz_mk h ι, w) := rz_s1 fun _ => rfl
theorem g242_8 : rg Z d rx_m242 8 L S (rz_mk h ι, w) = rg Z d rx_m242 10 L (.int 8 :: S) (rz_mk h ι, w) := rz_s1 fun _ => rfl
theorem g242_10 : rg Z d rx_m242 10 L (v3 :: v2 :: v1 :: [.ref t0]) (rz_mk h ι, w) = rz_k true (rz_f Z d 175 [v1, v2, v3] (rz_mk h ι, w)) (fun v σ' => rg Z d rx_m242 13 L (v.toList ++ [.ref t0]) σ') := rz_cs (pc := 10) (n := 3) (mi := 175) (S := v3 :: v2 :: v1 :: [.ref t0]) (rest := [.ref t0]) rfl rfl (Nat.le_of_ble_eq_true rfl) (Nat.le_of_ble_eq_true rfl)
theorem g242_13 : rg Z d rx_m242 13 L (.int x :: S) (rz_mk h ι, w) = if x = 0 then rg Z d rx_m242 16 L S (rz_mk h ι, w) else rg Z d rx_m242 20 L S (rz_mk h ι, w) := rz_if1 (pc := 13) (t := 20) (off := 7) (cc := .ne) (by decide) rfl
theorem g242_16 : rg Z d rx_m242 16 L S (rz_mk h ι, w) = rg Z d rx_m242 17 L (.int 1 :: S) (rz_mk h ι, w) := rz_s1 fun _ => rfl
theorem g242_17 : rg Z d rx_m242 17 L S (rz_mk h ι, w) = rg Z d rx_m242 21 L S (rz_mk h ι, w) := rz_s1 fun _ => rfl
theorem g242_20 : rg Z d rx_m242 20 L S (rz_mk h ι, w) = rg Z d rx_m242 21 L (.int 0 :: S) (rz_mk h ι, w) := rz_s1 fun _ => rfl
theorem g242_21 : rg Z d rx_m242 21 L S (rz_mk h ι, w) = rg Z d rx_m242 22 L (.int 1 :: S) (rz_mk h ι, w) := rz_s1 fun _ => rfl
theorem g242_22 : rg Z d rx_m242 22 L S (rz_mk h ι, w) = rg Z d rx_m242 23 L (.int 1 :: S) (rz_mk h ι, w) := rz_s1 fun _ => rfl
theorem g242_23 (c : rz_oc h a 12) : rg Z d rx_m242 23 L (v3 :: v2 :: v1 :: .ref a :: []) (rz_mk h ι, w) = rz_k true (rz_f Z d 174 [.ref a, v1, v2, v3] (rz_mk h ι, w)) (fun v σ' => rg Z d rx_m242 26 L (v.toList ++ []) σ') := rz_cv (pc := 23) (n := 3) (mi := 174) (S := v3 :: v2 :: v1 :: .ref a :: []) (rest := []) rfl rfl (Nat.le_of_ble_eq_true rfl) (Nat.le_of_ble_eq_true rfl) c
theorem g242_26 : rg Z d rx_m242 26 L (.int x :: S) (rz_mk h ι, w) = if x = 0 then rg Z d rx_m242 31 L S (rz_mk h ι, w) else rg Z d rx_m242 29 L S (rz_mk h ι, w) := rz_if1 (pc := 26) (t := 31) (off := 5) (cc := .eq) (by decide) rfl
theorem g242_29 : rg Z d rx_m242 29 L S (rz_mk h ι, w) = rg Z d rx_m242 30 L (.int 0 :: S) (rz_mk h ι, w) := rz_s1 fun _ => rfl
theorem g242_30 : rg Z d rx_m242 30 L [.int x] (rz_mk h ι, w) = some (.inl (some (.int x)), (rz_mk h ι, w)) := rz_reti rfl rfl rfl
theorem g242_31 : rg Z d rx_m242 31 [some (.ref a), l1, l2] S (rz_mk h ι, w) = rg Z d rx_m242 32 [some (.ref a), l1, l2] (.ref a :: S) (rz_mk h ι, w) := rz_s1 fun _ => rfl
theorem g242_32 (c : rz_fR h a 12 25) : rg Z d rx_m242 32 L (.ref a :: S) (rz_mk h ι, w) = rg Z d rx_m242 35 L (rz_rv h a 25 :: S) (rz_mk h ι, w) := rz_gR rfl (by decide) c
theorem g242_35 : rg Z d rx_m242 35 [some (.ref a), l1, l2] S (rz_mk h ι, w) = rg Z d rx_m242 36 [some (.ref a), l1, l2] (.ref a :: S) (rz_mk h ι, w) := rz_s1 fun _ => rfl
theorem g242_36 (c : rz_fR h a 12 26) : rg Z d rx_m242 36 L (.ref a :: S) (rz_mk h ι, w) = rg Z d rx_m242 39 L (rz_rv h a 26 :: S) (rz_mk h ι, w) := rz_gR rfl (by decide) c
theorem g242_39 : rg Z d rx_m242 39 L (v2 :: v1 :: []) (rz_mk h ι, w) = rz_k true (rz_f Z d 199 [v1, v2] (rz_mk h ι, w)) (fun v σ' => rg Z d rx_m242 42 L (v.toList ++ []) σ') := rz_cs (pc := 39) (n := 2) (mi := 199) (S := v2 :: v1 :: []) (rest := []) rfl rfl (Nat.le_of_ble_eq_true rfl) (Nat.le_of_ble_eq_true rfl)
theorem g242_42 : rg Z d rx_m242 42 L S (rz_mk h ι, w) = rg Z d rx_m242 43 L (.int 0 :: S) (rz_mk h ι, w) := rz_s1 fun _ => rfl
theorem g242_43 : rg Z d rx_m242 43 [l0, some (.int z), l2] (.int x :: S) (rz_mk h ι, w) = rg Z d rx_m242 44 [l0, some (.int z), some (.int x)] S (rz_mk h ι, w) := rz_s1 fun _ => rfl
theorem g242_44 : rg Z d rx_m242 44 [l0, l1, some (.int x)] S (rz_mk h ι, w) = rg Z d rx_m242 45 [l0, l1, some (.int x)] (.int x :: S) (rz_mk h ι, w) := rz_s1 fun _ => rfl
theorem g242_45 : rg Z d rx_m242 45 [l0, some (.int x), l2] S (rz_mk h ι, w) = rg Z d rx_m242 46 [l0, some (.int x), l2] (.int x :: S) (rz_mk h ι, w) := rz_s1 fun _ => rfl
theorem g242_46 : rg Z d rx_m242 46 L (.int y :: .int x :: S) (rz_mk h ι, w) = if x < y then rg Z d rx_m242 49 L S (rz_mk h ι, w) else rg Z d rx_m242 82 L S (rz_mk h ι, w) := rz_if2 (pc := 46) (t := 82) (off := 36) (cc := .ge) (by decide) rfl
theorem g242_49 : rg Z d rx_m242 49 [some (.ref a), l1, l2] S (rz_mk h ι, w) = rg Z d rx_m242 50 [some (.ref a), l1, l2] (.ref a :: S) (rz_mk h ι, w) := rz_s1 fun _ => rfl
theorem g242_50 (c : rz_fR h a 12 26) : rg Z d rx_m242 50 L (.ref a :: S) (rz_mk h ι, w) = rg Z d rx_m242 53 L (rz_rv h a 26 :: S) (rz_mk h ι, w) := rz_gR rfl (by decide) c
theorem g242_53 : rg Z d rx_m242 53 L S (rz_mk h ι, w) = rg Z d rx_m242 55 L (.int 58 :: S) (rz_mk h ι, w) := rz_s1 fun _ => rfl
theorem g242_55 (c : rz_ar h a 0) (hi : rz_ix x (rz_ln h a)) : rg Z d rx_m242 55 L (.int x :: .ref a :: S) (rz_mk h ι, w) = rg Z d rx_m242 56 L (.int (ι a x.toNatClampNeg) :: S) (rz_mk h ι, w) := rz_iald rfl c hi
theorem g242_56 : rg Z d rx_m242 56 L S (rz_mk h ι, w) = rg Z d rx_m242 57 L (.int (-1) :: S) (rz_mk h ι, w) := rz_s1 fun _ => rfl
theorem g242_57 : rg Z d rx_m242 57 L (.int y :: .int x :: S) (rz_mk h ι, w) = if x = y then rg Z d rx_m242 82 L S (rz_mk h ι, w) else rg Z d rx_m242 60 L S (rz_mk h ι, w) := rz_if2 (pc := 57) (t := 82) (off := 25) (cc := .eq) (by decide) rfl
theorem g242_60 : rg Z d rx_m242 60 [some (.ref a), l1, l2] S (rz_mk h ι, w) = rg Z d rx_m242 61 [some (.ref a), l1, l2] (.ref a :: S) (rz_mk h ι, w) := rz_s1 fun _ => rfl
theorem g242_61 : rg Z d rx_m242 61 [some (.ref a), l1, l2] S (rz_mk h ι, w) = rg Z d rx_m242 62 [some (.ref a), l1, l2] (.ref a :: S) (rz_mk h ι, w) := rz_s1 fun _ => rfl
theorem g242_62 (c : rz_fR h a 12 26) : rg Z d rx_m242 62 L (.ref a :: S) (rz_mk h ι, w) = rg Z d rx_m242 65 L (rz_rv h a 26 :: S) (rz_mk h ι, w) := rz_gR rfl (by decide) c
theorem g242_65 : rg Z d rx_m242 65 [some (.ref a), l1, l2] S (rz_mk h ι, w) = rg Z d rx_m242 66 [some (.ref a), l1, l2] (.ref a :: S) (rz_mk h ι, w) := rz_s1 fun _ => rfl
theorem g242_66 (c : rz_fR h a 12 26) : rg Z d rx_m242 66 L (.ref a :: S) (rz_mk h ι, w) = rg Z d rx_m242 69 L (rz_rv h a 26 :: S) (rz_mk h ι, w) := rz_gR rfl (by decide) c
theorem g242_69 : rg Z d rx_m242 69 L S (rz_mk h ι, w) = rg Z d rx_m242 71 L (.int 58 :: S) (rz_mk h ι, w) := rz_s1 fun _ => rfl
theorem g242_71 (c : rz_ar h a 0) (hi : rz_ix x (rz_ln h a)) : rg Z d rx_m242 71 L (.int x :: .ref a :: S) (rz_mk h ι, w) = rg Z d rx_m242 72 L (.int (ι a x.toNatClampNeg) :: S) (rz_mk h ι, w) := rz_iald rfl c hi
theorem g242_72 (c : rz_oc h a 12) : rg Z d rx_m242 72 L (v2 :: v1 :: .ref a :: []) (rz_mk h ι, w) = rz_k true (rz_f Z d 228 [.ref a, v1, v2] (rz_mk h ι, w)) (fun v σ' => rg Z d rx_m242 75 L (v.toList ++ []) σ') := rz_cv (pc := 72) (n := 2) (mi := 228) (S := v2 :: v1 :: .ref a :: []) (rest := []) rfl rfl (Nat.le_of_ble_eq_true rfl) (Nat.le_of_ble_eq_true rfl) c
theorem g242_75 : rg Z d rx_m242 75 L (.int x :: S) (rz_mk h ι, w) = rg Z d rx_m242 76 L S (rz_mk h ι, w) := rz_s1 fun _ => rfl
theorem g242_76 : rg Z d rx_m242 76 [l0, some (.int z), some (.int x)] S (rz_mk h ι, w) = rg Z d rx_m242 79 [l0, some (.int z), some (.int (x + 1))] S (rz_mk h ι, w) := rz_s1 fun _ => rfl
theorem g242_79 : rg Z d rx_m242 79 L S (rz_mk h ι, w) = rg Z d rx_m242 44 L S (rz_mk h ι, w) := rz_s1 fun _ => rfl
theorem g242_82 : rg Z d rx_m242 82 [some (.ref a), l1, l2] S (rz_mk h ι, w) = rg Z d rx_m242 83 [some (.ref a), l1, l2] (.ref a :: S) (rz_mk h ι, w) := rz_s1 fun _ => rfl
theorem g242_83 (c : rz_fR h a 12 26) : rg Z d rx_m242 83 L (.ref a :: S) (rz_mk h ι, w) = rg Z d rx_m242 86 L (rz_rv h a 26 :: S) (rz_mk h ι, w) := rz_gR rfl (by decide) c
theorem g242_86 : rg Z d rx_m242 86 L S (rz_mk h ι, w) = rg Z d rx_m242 88 L (.int 58 :: S) (rz_mk h ι, w) := rz_s1 fun _ => rfl
theorem g242_88 (c : rz_ar h a 0) (hi : rz_ix x (rz_ln h a)) : rg Z d rx_m242 88 L (.int x :: .ref a :: S) (rz_mk h ι, w) = rg Z d rx_m242 89 L (.int (ι a x.toNatClampNeg) :: S) (rz_mk h ι, w) := rz_iald rfl c hi
theorem g242_89 : rg Z d rx_m242 89 L [.int x] (rz_mk h ι, w) = some (.inl (some (.int x)), (rz_mk h ι, w)) := rz_reti rfl rfl rfl
theorem e242 : rz_f Z (d + 1) 242 [.ref t0, .int s1] σ = rg Z d rx_m242 0 [some (.ref t0), some (.int s1), none] [] σ := rz_f_eq rfl (Nat.le_of_ble_eq_true rfl)
theorem g243_0 : rg Z d rx_m243 0 [some (.ref a), l1, l2, l3, l4, l5, l6, l7, l8, l9] S (rz_mk h ι, w) = rg Z d rx_m243 1 [some (.ref a), l1, l2, l3, l4, l5, l6, l7, l8, l9] (.ref a :: S) (rz_mk h ι, w) := rz_s1 fun _ => rfl
theorem g243_1 (c : rz_fR h a 12 25) : rg Z d rx_m243 1 L (.ref a :: S) (rz_mk h ι, w) = rg Z d rx_m243 4 L (rz_rv h a 25 :: S) (rz_mk h ι, w) := rz_gR rfl (by decide) c
theorem g243_4 : rg Z d rx_m243 4 L S (rz_mk h ι, w) = rg Z d rx_m243 6 L (.int 58 :: S) (rz_mk h ι, w) := rz_s1 fun _ => rfl
theorem g243_6 (c : rz_ar h a 0) (hi : rz_ix x (rz_ln h a)) : rg Z d rx_m243 6 L (.int x :: .ref a :: S) (rz_mk h ι, w) = rg Z d rx_m243 7 L (.int (ι a x.toNatClampNeg) :: S) (rz_mk h ι, w) := rz_iald rfl c hi
theorem g243_7 : rg Z d rx_m243 7 [l0, l1, l2, l3, some (.int z), l5, l6, l7, l8, l9] (.int x :: S) (rz_mk h ι, w) = rg Z d rx_m243 9 [l0, l1, l2, l3, some (.int z), some (.int x), l6, l7, l8, l9] S (rz_mk h ι, w) := rz_s1 fun _ => rfl
theorem g243_9 : rg Z d rx_m243 9 [l0, l1, some (.int x), l3, l4, l5, l6, l7, l8, l9] S (rz_mk h ι, w) = rg Z d rx_m243 10 [l0, l1, some (.int x), l3, l4, l5, l6, l7, l8, l9] (.int x :: S) (rz_mk h ι, w) := rz_s1 fun _ => rfl
theorem g243_10 : rg Z d rx_m243 10 [some (.ref a), l1, l2, l3, l4, l5, l6, l7, l8, l9] S (rz_mk h ι, w) = rg Z d rx_m243 11 [some (.ref a), l1, l2, l3, l4, l5, l6, l7, l8, l9] (.ref a :: S) (rz_mk h ι, w) := rz_s1 fun _ => rfl
theorem g243_11 (c : rz_fR h a 12 25) : rg Z d rx_m243 11 L (.ref a :: S) (rz_mk h ι, w) = rg Z d rx_m243 14 L (rz_rv h a 25 :: S) (rz_mk h ι, w) := rz_gR rfl (by decide) c
theorem g243_14 : rg Z d rx_m243 14 [l0, some (.int x), l2, l3, l4, l5, l6, l7, l8, l9] S (rz_mk h ι, w) = rg Z d rx_m243 15 [l0, some (.int x), l2, l3, l4, l5, l6, l7, l8, l9] (.int x :: S) (rz_mk h ι, w) := rz_s1 fun _ => rfl
theorem g243_15 : rg Z d rx_m243 15 L S (rz_mk h ι, w) = rg Z d rx_m243 16 L (.int 0 :: S) (rz_mk h ι, w) := rz_s1 fun _ => rfl
theorem g243_16 : rg Z d rx_m243 16 L (v3 :: v2 :: v1 :: [.int s0]) (rz_mk h ι, w) = rz_k true (rz_f Z d 218 [v1, v2, v3] (rz_mk h ι, w)) (fun v σ' => rg Z d rx_m243 19 L (v.toList ++ [.int s0]) σ') := rz_cs (pc := 16) (n := 3) (mi := 218) (S := v3 :: v2 :: v1 :: [.int s0]) (rest := [.int s0]) rfl rfl (Nat.le_of_ble_eq_true rfl) (Nat.le_of_ble_eq_true rfl)
theorem g243_19 : rg Z d rx_m243 19 L (.int y :: .int x :: S) (rz_mk h ι, w) = if x = y then rg Z d rx_m243 22 L S (rz_mk h ι, w) else rg Z d rx_m243 26 L S (rz_mk h ι, w) := rz_if2 (pc := 19) (t := 26) (off := 7) (cc := .ne) (by decide) rfl
theorem g243_22 : rg Z d rx_m243 22 L S (rz_mk h ι, w) = rg Z d rx_m243 23 L (.int 0 :: S) (rz_mk h ι, w) := rz_s1 fun _ => rfl
theorem g243_23 : rg Z d rx_m243 23 L S (rz_mk h ι, w) = rg Z d rx_m243 27 L S (rz_mk h ι, w) := rz_s1 fun _ => rfl
theorem g243_26 : rg Z d rx_m243 26 L S (rz_mk h ι, w) = rg Z d rx_m243 27 L (.int 1 :: S) (rz_mk h ι, w) := rz_s1 fun _ => rfl
theorem g243_27 : rg Z d rx_m243 27 [l0, l1, l2, some (.int x), l4, l5, l6, l7, l8, l9] S (rz_mk h ι, w) = rg Z d rx_m243 28 [l0, l1, l2, some (.int x), l4, l5, l6, l7, l8, l9] (.int x :: S) (rz_mk h ι, w) := rz_s1 fun _ => rfl
theorem g243_28 : rg Z d rx_m243 28 [some (.ref a), l1, l2, l3, l4, l5, l6, l7, l8, l9] S (rz_mk h ι, w) = rg Z d rx_m243 29 [some (.ref a), l1, l2, l3, l4, l5, l6, l7, l8, l9] (.ref a :: S) (rz_mk h ι, w) := rz_s1 fun _ => rfl
theorem g243_29 (c : rz_fR h a 12 25) : rg Z d rx_m243 29 L (.ref a :: S) (rz_mk h ι, w) = rg Z d rx_m243 32 L (rz_rv h a 25 :: S) (rz_mk h ι, w) := rz_gR rfl (by decide) c
theorem g243_32 : rg Z d rx_m243 32 [l0, some (.int x), l2, l3, l4, l5, l6, l7, l8, l9] S (rz_mk h ι, w) = rg Z d rx_m243 33 [l0, some (.int x), l2, l3, l4, l5, l6, l7, l8, l9] (.int x :: S) (rz_mk h ι, w) := rz_s1 fun _ => rfl
theorem g243_33 : rg Z d rx_m243 33 L S (rz_mk h ι, w) = rg Z d rx_m243 34 L (.int 1 :: S) (rz_mk h ι, w) := rz_s1 fun _ => rfl
theorem g243_34 : rg Z d rx_m243 34 L (v3 :: v2 :: v1 :: [.int s0, .int s1]) (rz_mk h ι, w) = rz_k true (rz_f Z d 218 [v1, v2, v3] (rz_mk h ι, w)) (fun v σ' => rg Z d rx_m243 37 L (v.toList ++ [.int s0, .int s1]) σ') := rz_cs (pc := 34) (n := 3) (mi := 218) (S := v3 :: v2 :: v1 :: [.int s0, .int s1]) (rest := [.int s0, .int s1]) rfl rfl (Nat.le_of_ble_eq_true rfl) (Nat.le_of_ble_eq_true rfl)
theorem g243_37 : rg Z d rx_m243 37 L (.int y :: .int x :: S) (rz_mk h ι, w) = if x = y then rg Z d rx_m243 40 L S (rz_mk h ι, w) else rg Z d rx_m243 44 L S (rz_mk h ι, w) := rz_if2 (pc := 37) (t := 44) (off := 7) (cc := .ne) (by decide) rfl
theorem g243_40 : rg Z d rx_m243 40 L S (rz_mk h ι, w) = rg Z d rx_m243 41 L (.int 0 :: S) (rz_mk h ι, w) := rz_s1 fun _ => rfl
theorem g243_41 : rg Z d rx_m243 41 L S (rz_mk h ι, w) = rg Z d rx_m243 45 L S (rz_mk h ι, w) := rz_s1 fun _ => rfl
theorem g243_44 : rg Z d rx_m243 44 L S (rz_mk h ι, w) = rg Z d rx_m243 45 L (.int 1 :: S) (rz_mk h ι, w) := rz_s1 fun _ => rfl
theorem g243_45 : rg Z d rx_m243 45 L (.int y :: .int x :: S) (rz_mk h ι, w) = rg Z d rx_m243 46 L (.int (x + y) :: S) (rz_mk h ι, w) := rz_s1 fun _ => rfl
theorem g243_46 : rg Z d rx_m243 46 [l0, l1, l2, l3, some (.int x), l5, l6, l7, l8, l9] S (rz_mk h ι, w) = rg Z d rx_m243 48 [l0, l1, l2, l3, some (.int x), l5, l6, l7, l8, l9] (.int x :: S) (rz_mk h ι, w) := rz_s1 fun _ => rfl
theorem g243_48 : rg Z d rx_m243 48 [some (.ref a), l1, l2, l3, l4, l5, l6, l7, l8, l9] S (rz_mk h ι, w) = rg Z d rx_m243 49 [some (.ref a), l1, l2, l3, l4, l5, l6, l7, l8, l9] (.ref a :: S) (rz_mk h ι, w) := rz_s1 fun _ => rfl
theorem g243_49 (c : rz_fR h a 12 25) : rg Z d rx_m243 49 L (.ref a :: S) (rz_mk h ι, w) = rg Z d rx_m243 52 L (rz_rv h a 25 :: S) (rz_mk h ι, w) := rz_gR rfl (by decide) c
theorem g243_52 : rg Z d rx_m243 52 [l0, some (.int x), l2, l3, l4, l5, l6, l7, l8, l9] S (rz_mk h ι, w) = rg Z d rx_m243 53 [l0, some (.int x), l2, l3, l4, l5, l6, l7, l8, l9] (.int x :: S) (rz_mk h ι, w) := rz_s1 fun _ => rfl
theorem g243_53 : rg Z d rx_m243 53 L S (rz_mk h ι, w) = rg Z d rx_m243 54 L (.int 2 :: S) (rz_mk h ι, w) := rz_s1 fun _ => rfl
theorem g243_54 : rg Z d rx_m243 54 L (v3 :: v2 :: v1 :: [.int s0, .int s1]) (rz_mk h ι, w) = rz_k true (rz_f Z d 218 [v1, v2, v3] (rz_mk h ι, w)) (fun v σ' => rg Z d rx_m243 57 L (v.toList ++ [.int s0, .int s1]) σ') := rz_cs (pc := 54) (n := 3) (mi := 218) (S := v3 :: v2 :: v1 :: [.int s0, .int s1]) (rest := [.int s0, .int s1]) rfl rfl (Nat.le_of_ble_eq_true rfl) (Nat.le_of_ble_eq_true rfl)
theorem g243_57 : rg Z d rx_m243 57 L (.int y :: .int x :: S) (rz_mk h ι, w) = if x = y then rg Z d rx_m243 60 L S (rz_mk h ι, w) else rg Z d rx_m243 64 L S (rz_mk h ι, w) := rz_if2 (pc := 57) (t := 64) (off := 7) (cc := .ne) (by decide) rfl
theorem g243_60 : rg Z d rx_m243 60 L S (rz_mk h ι, w) = rg Z d rx_m243 61 L (.int 0 :: S) (rz_mk h ι, w) := rz_s1 fun _ => rfl
theorem g243_61 : rg Z d rx_m243 61 L S (rz_mk h ι, w) = rg Z d rx_m243 65 L S (rz_mk h ι, w) := rz_s1 fun _ => rfl
theorem g243_64 : rg Z d rx_m243 64 L S (rz_mk h ι, w) = rg Z d rx_m243 65 L (.int 1 :: S) (rz_mk h ι, w) := rz_s1 fun _ => rfl
theorem g243_65 : rg Z d rx_m243 65 L (.int y :: .int x :: S) (rz_mk h ι, w) = rg Z d rx_m243 66 L (.int (x + y) :: S) (rz_mk h ι, w) := rz_s1 fun _ => rfl
theorem g243_66 : rg Z d rx_m243 66 [l0, l1, l2, l3, l4, some (.int z), l6, l7, l8, l9] (.int x :: S) (rz_mk h ι, w) = rg Z d rx_m243 68 [l0, l1, l2, l3, l4, some (.int z), some (.int x), l7, l8, l9] S (rz_mk h ι, w) := rz_s1 fun _ => rfl
theorem g243_68 : rg Z d rx_m243 68 [some (.ref a), l1, l2, l3, l4, l5, l6, l7, l8, l9] S (rz_mk h ι, w) = rg Z d rx_m243 69 [some (.ref a), l1, l2, l3, l4, l5, l6, l7, l8, l9] (.ref a :: S) (rz_mk h ι, w) := rz_s1 fun _ => rfl
theorem g243_69 : rg Z d rx_m243 69 [some (.ref a), l1, l2, l3, l4, l5, l6, l7, l8, l9] S (rz_mk h ι, w) = rg Z d rx_m243 70 [some (.ref a), l1, l2, l3, l4, l5, l6, l7, l8, l9] (.ref a :: S) (rz_mk h ι, w) := rz_s1 fun _ => rfl
theorem g243_70 (c : rz_fR h a 12 25) : rg Z d rx_m243 70 L (.ref a :: S) (rz_mk h ι, w) = rg Z d rx_m243 73 L (rz_rv h a 25 :: S) (rz_mk h ι, w) := rz_gR rfl (by decide) c
theorem g243_73 : rg Z d rx_m243 73 [l0, l1, some (.int x), l3, l4, l5, l6, l7, l8, l9] S (rz_mk h ι, w) = rg Z d rx_m243 74 [l0, l1, some (.int x), l3, l4, l5, l6, l7, l8, l9] (.int x :: S) (rz_mk h ι, w) := rz_s1 fun _ => rfl
theorem g243_74 : rg Z d rx_m243 74 [l0, l1, l2, some (.int x), l4, l5, l6, l7, l8, l9] S (rz_mk h ι, w) = rg Z d rx_m243 75 [l0, l1, l2, some (.int x), l4, l5, l6, l7, l8, l9] (.int x :: S) (rz_mk h ι, w) := rz_s1 fun _ => rfl
theorem g243_75 : rg Z d rx_m243 75 [l0, l1, l2, l3, some (.int x), l5, l6, l7, l8, l9] S (rz_mk h ι, w) = rg Z d rx_m243 77 [l0, l1, l2, l3, some (.int x), l5, l6, l7, l8, l9] (.int x :: S) (rz_mk h ι, w) := rz_s1 fun _ => rfl
theorem g243_77 : rg Z d rx_m243 77 [some (.ref a), l1, l2, l3, l4, l5, l6, l7, l8, l9] S (rz_mk h ι, w) = rg Z d rx_m243 78 [some (.ref a), l1, l2, l3, l4, l5, l6, l7, l8, l9] (.ref a :: S) (rz_mk h ι, w) := rz_s1 fun _ => rfl
theorem g243_78 (c : rz_fR h a 12 25) : rg Z d rx_m243 78 L (.ref a :: S) (rz_mk h ι, w) = rg Z d rx_m243 81 L (rz_rv h a 25 :: S) (rz_mk h ι, w) := rz_gR rfl (by decide) c
theorem g243_81 : rg Z d rx_m243 81 [l0, l1, l2, l3, l4, some (.int x), l6, l7, l8, l9] S (rz_mk h ι, w) = rg Z d rx_m243 83 [l0, l1, l2, l3, l4, some (.int x), l6, l7, l8, l9] (.int x :: S) (rz_mk h ι, w) := rz_s1 fun _ => rfl
theorem g243_83 : rg Z d rx_m243 83 L S (rz_mk h ι, w) = rg Z d rx_m243 84 L (.int 0 :: S) (rz_mk h ι, w) := rz_s1 fun _ => rfl
theorem g243_84 : rg Z d rx_m243 84 L (v3 :: v2 :: v1 :: [.int s0, .int s1, .int s2, .ref t3, .ref t4]) (rz_mk h ι, w) = rz_k true (rz_f Z d 217 [v1, v2, v3] (rz_mk h ι, w)) (fun v σ' => rg Z d rx_m243 87 L (v.toList ++ [.int s0, .int s1, .int s2, .ref t3, .ref t4]) σ') := rz_cs (pc := 84) (n := 3) (mi := 217) (S := v3 :: v2 :: v1 :: [.int s0, .int s1, .int s2, .ref t3, .ref t4]) (rest := [.int s0, .int s1, .int s2, .ref t3, .ref t4]) rfl rfl (Nat.le_of_ble_eq_true rfl) (Nat.le_of_ble_eq_true rfl)
theorem g243_87 : rg Z d rx_m243 87 [some (.ref a), l1, l2, l3, l4, l5, l6, l7, l8, l9] S (rz_mk h ι, w) = rg Z d rx_m243 88 [some (.ref a), l1, l2, l3, l4, l5, l6, l7, l8, l9] (.ref a :: S) (rz_mk h ι, w) := rz_s1 fun _ => rfl
theorem g243_88 (c : rz_fR h a 12 25) : rg Z d rx_m243 88 L (.ref a :: S) (rz_mk h ι, w) = rg Z d rx_m243 91 L (rz_rv h a 25 :: S) (rz_mk h ι, w) := rz_gR rfl (by decide) c
theorem g243_91 : rg Z d rx_m243 91 [l0, l1, l2, l3, l4, some (.int x), l6, l7, l8, l9] S (rz_mk h ι, w) = rg Z d rx_m243 93 [l0, l1, l2, l3, l4, some (.int x), l6, l7, l8, l9] (.int x :: S) (rz_mk h ι, w) := rz_s1 fun _ => rfl
theorem g243_93 : rg Z d rx_m243 93 L S (rz_mk h ι, w) = rg Z d rx_m243 94 L (.int 1 :: S) (rz_mk h ι, w) := rz_s1 fun _ => rfl
theorem g243_94 : rg Z d rx_m243 94 L (v3 :: v2 :: v1 :: [.int s0, .int s1, .int s2, .int s3, .ref t4, .ref t5]) (rz_mk h ι, w) = rz_k true (rz_f Z d 217 [v1, v2, v3] (rz_mk h ι, w)) (fun v σ' => rg Z d rx_m243 97 L (v.toList ++ [.int s0, .int s1, .int s2, .int s3, .ref t4, .ref t5]) σ') := rz_cs (pc := 94) (n := 3) (mi := 217) (S := v3 :: v2 :: v1 :: [.int s0, .int s1, .int s2, .int s3, .ref t4, .ref t5]) (rest := [.int s0, .int s1, .int s2, .int s3, .ref t4, .ref t5]) rfl rfl (Nat.le_of_ble_eq_true rfl) (Nat.le_of_ble_eq_true rfl)
theorem g243_97 : rg Z d rx_m243 97 [some (.ref a), l1, l2, l3, l4, l5, l6, l7, l8, l9] S (rz_mk h ι, w) = rg Z d rx_m243 98 [some (.ref a), l1, l2, l3, l4, l5, l6, l7, l8, l9] (.ref a :: S) (rz_mk h ι, w) := rz_s1 fun _ => rfl
theorem g243_98 (c : rz_fR h a 12 25) : rg Z d rx_m243 98 L (.ref a :: S) (rz_mk h ι, w) = rg Z d rx_m243 101 L (rz_rv h a 25 :: S) (rz_mk h ι, w) := rz_gR rfl (by decide) c
theorem g243_101 : rg Z d rx_m243 101 [l0, l1, l2, l3, l4, some (.int x), l6, l7, l8, l9] S (rz_mk h ι, w) = rg Z d rx_m243 103 [l0, l1, l2, l3, l4, some (.int x), l6, l7, l8, l9] (.int x :: S) (rz_mk h ι, w) := rz_s1 fun _ => rfl
theorem g243_103 : rg Z d rx_m243 103 L S (rz_mk h ι, w) = rg Z d rx_m243 104 L (.int 2 :: S) (rz_mk h ι, w) := rz_s1 fun _ => rfl
theorem g243_104 : rg Z d rx_m243 104 L (v3 :: v2 :: v1 :: [.int s0, .int s1, .int s2, .int s3, .int s4, .ref t5, .ref t6]) (rz_mk h ι, w) = rz_k true (rz_f Z d 217 [v1, v2, v3] (rz_mk h ι, w)) (fun v σ' => rg Z d rx_m243 107 L (v.toList ++ [.int s0, .int s1, .int s2, .int s3, .int s4, .ref t5, .ref t6]) σ') := rz_cs (pc := 104) (n := 3) (mi := 217) (S := v3 :: v2 :: v1 :: [.int s0, .int s1, .int s2, .int s3, .int s4, .ref t5, .ref t6]) (rest := [.int s0, .int s1, .int s2, .int s3, .int s4, .ref t5, .ref t6]) rfl rfl (Nat.le_of_ble_eq_true rfl) (Nat.le_of_ble_eq_true rfl)
theorem g243_107 : rg Z d rx_m243 107 [l0, l1, l2, l3, l4, l5, some (.int x), l7, l8, l9] S (rz_mk h ι, w) = rg Z d rx_m243 109 [l0, l1, l2, l3, l4, l5, some (.int x), l7, l8, l9] (.int x :: S) (rz_mk h ι, w) := rz_s1 fun _ => rfl
theorem g243_109 : rg Z d rx_m243 109 [some (.ref a), l1, l2, l3, l4, l5, l6, l7, l8, l9] S (rz_mk h ι, w) = rg Z d rx_m243 110 [some (.ref a), l1, l2, l3, l4, l5, l6, l7, l8, l9] (.ref a :: S) (rz_mk h ι, w) := rz_s1 fun _ => rfl
theorem g243_110 (c : rz_fR h a 12 25) : rg Z d rx_m243 110 L (.ref a :: S) (rz_mk h ι, w) = rg Z d rx_m243 113 L (rz_rv h a 25 :: S) (rz_mk h ι, w) := rz_gR rfl (by decide) c
theorem g243_113 : rg Z d rx_m243 113 L S (rz_mk h ι, w) = rg Z d rx_m243 115 L (.int 48 :: S) (rz_mk h ι, w) := rz_s1 fun _ => rfl
theorem g243_115 : rg Z d rx_m243 115 [l0, some (.int x), l2, l3, l4, l5, l6, l7, l8, l9] S (rz_mk h ι, w) = rg Z d rx_m243 116 [l0, some (.int x), l2, l3, l4, l5, l6, l7, l8, l9] (.int x :: S) (rz_mk h ι, w) := rz_s1 fun _ => rfl
theorem g243_116 : rg Z d rx_m243 116 L (.int y :: .int x :: S) (rz_mk h ι, w) = rg Z d rx_m243 117 L (.int (x + y) :: S) (rz_mk h ι, w) := rz_s1 fun _ => rfl
theorem g243_117 (c : rz_ar h a 0) (hi : rz_ix x (rz_ln h a)) : rg Z d rx_m243 117 L (.int x :: .ref a :: S) (rz_mk h ι, w) = rg Z d rx_m243 118 L (.int (ι a x.toNatClampNeg) :: S) (rz_mk h ι, w) := rz_iald rfl c hi
theorem g243_118 : rg Z d rx_m243 118 [l0, some (.int x), l2, l3, l4, l5, l6, l7, l8, l9] S (rz_mk h ι, w) = rg Z d rx_m243 119 [l0, some (.int x), l2, l3, l4, l5, l6, l7, l8, l9] (.int x :: S) (rz_mk h ι, w) := rz_s1 fun _ => rfl
theorem g243_119 (c : rz_oc h a 12) : rg Z d rx_m243 119 L (v10 :: v9 :: v8 :: v7 :: v6 :: v5 :: v4 :: v3 :: v2 :: v1 :: .ref a :: []) (rz_mk h ι, w) = rz_k true (rz_f Z d 216 [.ref a, v1, v2, v3, v4, v5, v6, v7, v8, v9, v10] (rz_mk h ι, w)) (fun v σ' => rg Z d rx_m243 122 L (v.toList ++ []) σ') := rz_cv (pc := 119) (n := 10) (mi := 216) (S := v10 :: v9 :: v8 :: v7 :: v6 :: v5 :: v4 :: v3 :: v2 :: v1 :: .ref a :: []) (rest := []) rfl rfl (Nat.le_of_ble_eq_true rfl) (Nat.le_of_ble_eq_true rfl) c
theorem g243_122 : rg Z d rx_m243 122 [l0, l1, l2, l3, l4, l5, some (.int z), l7, l8, l9] (.int x :: S) (rz_mk h ι, w) = rg Z d rx_m243 124 [l0, l1, l2, l3, l4, l5, some (.int z), some (.int x), l8, l9] S (rz_mk h ι, w) := rz_s1 fun _ => rfl
theorem g243_124 : rg Z d rx_m243 124 L S (rz_mk h ι, w) = rg Z d rx_m243 125 L (.int 0 :: S) (rz_mk h ι, w) := rz_s1 fun _ => rfl
theorem g243_125 : rg Z d rx_m243 125 [l0, l1, l2, l3, l4, l5, l6, some (.int z), l8, l9] (.int x :: S) (rz_mk h ι, w) = rg Z d rx_m243 127 [l0, l1, l2, l3, l4, l5, l6, some (.int z), some (.int x), l9] S (rz_mk h ι, w) := rz_s1 fun _ => rfl
theorem g243_127 : rg Z d rx_m243 127 [l0, l1, l2, l3, l4, l5, l6, l7, some (.int x), l9] S (rz_mk h ι, w) = rg Z d rx_m243 129 [l0, l1, l2, l3, l4, l5, l6, l7, some (.int x), l9] (.int x :: S) (rz_mk h ι, w) := rz_s1 fun _ => rfl
theorem g243_129 : rg Z d rx_m243 129 [some (.ref a), l1, l2, l3, l4, l5, l6, l7, l8, l9] S (rz_mk h ι, w) = rg Z d rx_m243 130 [some (.ref a), l1, l2, l3, l4, l5, l6, l7, l8, l9] (.ref a :: S) (rz_mk h ι, w) := rz_s1 fun _ => rfl
theorem g243_130 (c : rz_fR h a 12 25) : rg Z d rx_m243 130 L (.ref a :: S) (rz_mk h ι, w) = rg Z d rx_m243 133 L (rz_rv h a 25 :: S) (rz_mk h ι, w) := rz_gR rfl (by decide) c
theorem g243_133 : rg Z d rx_m243 133 L S (rz_mk h ι, w) = rg Z d rx_m243 135 L (.int 57 :: S) (rz_mk h ι, w) := rz_s1 fun _ => rfl
theorem g243_135 (c : rz_ar h a 0) (hi : rz_ix x (rz_ln h a)) : rg Z d rx_m243 135 L (.int x :: .ref a :: S) (rz_mk h ι, w) = rg Z d rx_m243 136 L (.int (ι a x.toNatClampNeg) :: S) (rz_mk h ι, w) := rz_iald rfl c hi
theorem g243_136 : rg Z d rx_m243 136 L (.int y :: .int x :: S) (rz_mk h ι, w) = if x < y then rg Z d rx_m243 139 L S (rz_mk h ι, w) else rg Z d rx_m243 209 L S (rz_mk h ι, w) := rz_if2 (pc := 136) (t := 209) (off := 73) (cc := .ge) (by decide) rfl
theorem g243_139 : rg Z d rx_m243 139 [l0, l1, l2, l3, l4, l5, l6, l7, some (.int x), l9] S (rz_mk h ι, w) = rg Z d rx_m243 141 [l0, l1, l2, l3, l4, l5, l6, l7, some (.int x), l9] (.int x :: S) (rz_mk h ι, w) := rz_s1 fun _ => rfl
theorem g243_141 : rg Z d rx_m243 141 [l0, some (.int x), l2, l3, l4, l5, l6, l7, l8, l9] S (rz_mk h ι, w) = rg Z d rx_m243 142 [l0, some (.int x), l2, l3, l4, l5, l6, l7, l8, l9] (.int x :: S) (rz_mk h ι, w) := rz_s1 fun _ => rfl
theorem g243_142 : rg Z d rx_m243 142 L (.int y :: .int x :: S) (rz_mk h ι, w) = if x = y then rg Z d rx_m243 203 L S (rz_mk h ι, w) else rg Z d rx_m243 145 L S (rz_mk h ι, w) := rz_if2 (pc := 142) (t := 203) (off := 61) (cc := .eq) (by decide) rfl
theorem g243_145 : rg Z d rx_m243 145 [l0, l1, l2, l3, l4, l5, l6, l7, some (.int x), l9] S (rz_mk h ι, w) = rg Z d rx_m243 147 [l0, l1, l2, l3, l4, l5, l6, l7, some (.int x), l9] (.int x :: S) (rz_mk h ι, w) := rz_s1 fun _ => rfl
theorem g243_147 : rg Z d rx_m243 147 [l0, l1, l2, l3, l4, some (.int x), l6, l7, l8, l9] S (rz_mk h ι, w) = rg Z d rx_m243 149 [l0, l1, l2, l3, l4, some (.int x), l6, l7, l8, l9] (.int x :: S) (rz_mk h ι, w) := rz_s1 fun _ => rfl
theorem g243_149 : rg Z d rx_m243 149 L (.int y :: .int x :: S) (rz_mk h ι, w) = if x = y then rg Z d rx_m243 203 L S (rz_mk h ι, w) else rg Z d rx_m243 152 L S (rz_mk h ι, w) := rz_if2 (pc := 149) (t := 203) (off := 54) (cc := .eq) (by decide) rfl
theorem g243_152 : rg Z d rx_m243 152 [some (.ref a), l1, l2, l3, l4, l5, l6, l7, l8, l9] S (rz_mk h ι, w) = rg Z d rx_m243 153 [some (.ref a), l1, l2, l3, l4, l5, l6, l7, l8, l9] (.ref a :: S) (rz_mk h ι, w) := rz_s1 fun _ => rfl
theorem g243_153 (c : rz_fR h a 12 25) : rg Z d rx_m243 153 L (.ref a :: S) (rz_mk h ι, w) = rg Z d rx_m243 156 L (rz_rv h a 25 :: S) (rz_mk h ι, w) := rz_gR rfl (by decide) c
theorem g243_156 : rg Z d rx_m243 156 [l0, l1, l2, l3, l4, l5, l6, l7, some (.int x), l9] S (rz_mk h ι, w) = rg Z d rx_m243 158 [l0, l1, l2, l3, l4, l5, l6, l7, some (.int x), l9] (.int x :: S) (rz_mk h ι, w) := rz_s1 fun _ => rfl
theorem g243_158 : rg Z d rx_m243 158 L (v2 :: v1 :: []) (rz_mk h ι, w) = rz_k true (rz_f Z d 222 [v1, v2] (rz_mk h ι, w)) (fun v σ' => rg Z d rx_m243 161 L (v.toList ++ []) σ') := rz_cs (pc := 158) (n := 2) (mi := 222) (S := v2 :: v1 :: []) (rest := []) rfl rfl (Nat.le_of_ble_eq_true rfl) (Nat.le_of_ble_eq_true rfl)
theorem g243_161 : rg Z d rx_m243 161 L (.int x :: S) (rz_mk h ι, w) = if x = 0 then rg Z d rx_m243 164 L S (rz_mk h ι, w) else rg Z d rx_m243 167 L S (rz_mk h ι, w) := rz_if1 (pc := 161) (t := 167) (off := 6) (cc := .ne) (by decide) rfl
theorem g243_164 : rg Z d rx_m243 164 L S (rz_mk h ι, w) = rg Z d rx_m243 203 L S (rz_mk h ι, w) := rz_s1 fun _ => rfl
theorem g243_167 : rg Z d rx_m243 167 [some (.ref a), l1, l2, l3, l4, l5, l6, l7, l8, l9] S (rz_mk h ι, w) = rg Z d rx_m243 168 [some (.ref a), l1, l2, l3, l4, l5, l6, l7, l8, l9] (.ref a :: S) (rz_mk h ι, w) := rz_s1 fun _ => rfl
theorem g243_168 : rg Z d rx_m243 168 [some (.ref a), l1, l2, l3, l4, l5, l6, l7, l8, l9] S (rz_mk h ι, w) = rg Z d rx_m243 169 [some (.ref a), l1, l2, l3, l4, l5, l6, l7, l8, l9] (.ref a :: S) (rz_mk h ι, w) := rz_s1 fun _ => rfl
theorem g243_169 (c : rz_fR h a 12 25) : rg Z d rx_m243 169 L (.ref a :: S) (rz_mk h ι, w) = rg Z d rx_m243 172 L (rz_rv h a 25 :: S) (rz_mk h ι, w) := rz_gR rfl (by decide) c
theorem g243_172 : rg Z d rx_m243 172 [l0, l1, l2, l3, l4, l5, l6, l7, some (.int x), l9] S (rz_mk h ι, w) = rg Z d rx_m243 174 [l0, l1, l2, l3, l4, l5, l6, l7, some (.int x), l9] (.int x :: S) (rz_mk h ι, w) := rz_s1 fun _ => rfl
theorem g243_174 : rg Z d rx_m243 174 [l0, l1, l2, l3, l4, some (.int x), l6, l7, l8, l9] S (rz_mk h ι, w) = rg Z d rx_m243 176 [l0, l1, l2, l3, l4, some (.int x), l6, l7, l8, l9] (.int x :: S) (rz_mk h ι, w) := rz_s1 fun _ => rfl
theorem g243_176 (c : rz_oc h a 12) : rg Z d rx_m243 176 L (v3 :: v2 :: v1 :: .ref a :: []) (rz_mk h ι, w) = rz_k true (rz_f Z d 221 [.ref a, v1, v2, v3] (rz_mk h ι, w)) (fun v σ' => rg Z d rx_m243 179 L (v.toList ++ []) σ') := rz_cv (pc := 176) (n := 3) (mi := 221) (S := v3 :: v2 :: v1 :: .ref a :: []) (rest := []) rfl rfl (Nat.le_of_ble_eq_true rfl) (Nat.le_of_ble_eq_true rfl) c
theorem g243_179 : rg Z d rx_m243 179 [l0, l1, l2, l3, l4, l5, l6, l7, some (.int z), l9] (.int x :: S) (rz_mk h ι, w) = rg Z d rx_m243 181 [l0, l1, l2, l3, l4, l5, l6, l7, some (.int z), some (.int x)] S (rz_mk h ι, w) := rz_s1 fun _ => rfl
theorem g243_181 : rg Z d rx_m243 181 [l0, l1, l2, l3, l4, l5, l6, l7, l8, some (.int x)] S (rz_mk h ι, w) = rg Z d rx_m243 183 [l0, l1, l2, l3, l4, l5, l6, l7, l8, some (.int x)] (.int x :: S) (rz_mk h ι, w) := rz_s1 fun _ => rfl
theorem g243_183 : rg Z d rx_m243 183 [l0, l1, l2, l3, l4, l5, l6, some (.int x), l8, l9] S (rz_mk h ι, w) = rg Z d rx_m243 185 [l0, l1, l2, l3, l4, l5, l6, some (.int x), l8, l9] (.int x :: S) (rz_mk h ι, w) := rz_s1 fun _ => rfl
theorem g243_185 : rg Z d rx_m243 185 L (.int y :: .int x :: S) (rz_mk h ι, w) = if y < x then rg Z d rx_m243 201 L S (rz_mk h ι, w) else rg Z d rx_m243 188 L S (rz_mk h ι, w) := rz_if2 (pc := 185) (t := 201) (off := 16) (cc := .gt) (by decide) rfl
theorem g243_188 : rg Z d rx_m243 188 [l0, l1, l2, l3, l4, l5, l6, l7, l8, some (.int x)] S (rz_mk h ι, w) = rg Z d rx_m243 190 [l0, l1, l2, l3, l4, l5, l6, l7, l8, some (.int x)] (.int x :: S) (rz_mk h ι, w) := rz_s1 fun _ => rfl
theorem g243_190 : rg Z d rx_m243 190 [l0, l1, l2, l3, l4, l5, l6, some (.int x), l8, l9] S (rz_mk h ι, w) = rg Z d rx_m243 192 [l0, l1, l2, l3, l4, l5, l6, some (.int x), l8, l9] (.int x :: S) (rz_mk h ι, w) := rz_s1 fun _ => rfl
theorem g243_192 : rg Z d rx_m243 192 L (.int y :: .int x :: S) (rz_mk h ι, w) = if x = y then rg Z d rx_m243 195 L S (rz_mk h ι, w) else rg Z d rx_m243 203 L S (rz_mk h ι, w) := rz_if2 (pc := 192) (t := 203) (off := 11) (cc := .ne) (by decide) rfl
theorem g243_195 : rg Z d rx_m243 195 [l0, l1, l2, l3, l4, l5, l6, l7, some (.int x), l9] S (rz_mk h ι, w) = rg Z d rx_m243 197 [l0, l1, l2, l3, l4, l5, l6, l7, some (.int x), l9] (.int x :: S) (rz_mk h ι, w) := rz_s1 fun _ => rfl
theorem g243_197 : rg Z d rx_m243 197 [l0, some (.int x), l2, l3, l4, l5, l6, l7, l8, l9] S (rz_mk h ι, w) = rg Z d rx_m243 198 [l0, some (.int x), l2, l3, l4, l5, l6, l7, l8, l9] (.int x :: S) (rz_mk h ι, w) := rz_s1 fun _ => rfl
theorem g243_198 : rg Z d rx_m243 198 L (.int y :: .int x :: S) (rz_mk h ι, w) = if x < y then rg Z d rx_m243 201 L S (rz_mk h ι, w) else rg Z d rx_m243 203 L S (rz_mk h ι, w) := rz_if2 (pc := 198) (t := 203) (off := 5) (cc := .ge) (by decide) rfl
theorem g243_201 : rg Z d rx_m243 201 L S (rz_mk h ι, w) = rg Z d rx_m243 202 L (.int 0 :: S) (rz_mk h ι, w) := rz_s1 fun _ => rfl
theorem g243_202 (c : narrow .boolean (.int x) = .int x) : rg Z d rx_m243 202 L [.int x] (rz_mk h ι, w) = some (.inl (some (.int x)), (rz_mk h ι, w)) := rz_reti rfl rfl c
theorem g243_203 : rg Z d rx_m243 203 [l0, l1, l2, l3, l4, l5, l6, some (.int z), some (.int x), l9] S (rz_mk h ι, w) = rg Z d rx_m243 206 [l0, l1, l2, l3, l4, l5, l6, some (.int z), some (.int (x + 1)), l9] S (rz_mk h ι, w) := rz_s1 fun _ => rfl
theorem g243_206 : rg Z d rx_m243 206 L S (rz_mk h ι, w) = rg Z d rx_m243 127 L S (rz_mk h ι, w) := rz_s1 fun _ => rfl
theorem g243_209 : rg Z d rx_m243 209 L S (rz_mk h ι, w) = rg Z d rx_m243 210 L (.int 1 :: S) (rz_mk h ι, w) := rz_s1 fun _ => rfl
theorem g243_210 (c : narrow .boolean (.int x) = .int x) : rg Z d rx_m243 210 L [.int x] (rz_mk h ι, w) = some (.inl (some (.int x)), (rz_mk h ι, w)) := rz_reti rfl rfl c
theorem e243 : rz_f Z (d + 1) 243 [.ref t0, .int s1, .int s2, .int s3, .int s4] σ = rg Z d rx_m243 0 [some (.ref t0), some (.int s1), some (.int s2), some (.int s3), some (.int s4), none, none, none, none, none] [] σ := rz_f_eq rfl (Nat.le_of_ble_eq_true rfl)
end RZG
