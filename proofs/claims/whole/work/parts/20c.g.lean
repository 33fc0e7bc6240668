/-! each instruction, one step (written by program) -/
section RZG
variable {Z : rx_Z} {d : Nat} {S : List Value} {L : rx_L} {σ : rx_S} {h : Nat → Option rx_E} {ι : Nat → Nat → Int32} {w : Nat × Nat} {a b t0 t1 t2 t3 t4 t5 t6 t7 t8 : Nat} {x y z s0 s1 s2 s3 s4 s5 s6 s7 s8 s9 s10 : Int32} {p q q0 q1 q2 q3 : Int64} {v v1 v2 v3 v4 v5 v6 v7 v8 v9 v10 : Value} {l0 l1 l2 l3 l4 l5 l6 l7 l8 l9 l10 l11 l12 l13 l14 : Option Value}
theorem g87_0 : rg Z d rx_m87 0 [some (.ref a)] S (rz_mk h ι, w) = rg Z d rx_m87 1 [some (.ref a)] (.ref a :: S) (rz_mk h ι, w) := rz_s1 fun _ => rfl
theorem g87_1 : rg Z d rx_m87 1 L (.ref a :: []) (rz_mk h ι, w) = rg Z d rx_m87 4 L [] (rz_mk h ι, w) := rz_oi rfl (Nat.le_of_ble_eq_true rfl)
theorem g87_4 : rg Z d rx_m87 4 [some (.ref a)] S (rz_mk h ι, w) = rg Z d rx_m87 5 [some (.ref a)] (.ref a :: S) (rz_mk h ι, w) := rz_s1 fun _ => rfl
theorem g87_5 : rg Z d rx_m87 5 L S (rz_mk h ι, w) = rg Z d rx_m87 8 L (.int 600 :: S) (rz_mk h ι, w) := rz_s1 fun _ => rfl
theorem g87_8 : rg Z d rx_m87 8 L (.int 600 :: S) (rz_mk h ι, w) = rg Z d rx_m87 10 L (.ref w.1 :: S) (rz_mk (rx_up h w.1 (.inl (0, 600, fun _ => .int 0))) (rz_z ι w.1), w.1 + 1, w.2 + 600) := rz_nwa rfl (by decide) (by decide)
theorem g87_10 (c : rz_fR h a 9 0) (hv : rz_isr v = true) (hz : Z.2.1 ≤ a) : rg Z d rx_m87 10 L (v :: .ref a :: S) (rz_mk h ι, w) = rg Z d rx_m87 13 L S (rz_mk (rz_hs h a 0 v) ι, w) := rz_pR rfl c hv hz
theorem g87_13 : rg Z d rx_m87 13 [some (.ref a)] S (rz_mk h ι, w) = rg Z d rx_m87 14 [some (.ref a)] (.ref a :: S) (rz_mk h ι, w) := rz_s1 fun _ => rfl
theorem g87_14 : rg Z d rx_m87 14 L S (rz_mk h ι, w) = rg Z d rx_m87 15 L (.int 0 :: S) (rz_mk h ι, w) := rz_s1 fun _ => rfl
theorem g87_15 (c : rz_fI h a 9 1) (hz : Z.2.1 ≤ a) : rg Z d rx_m87 15 L (.int x :: .ref a :: S) (rz_mk h ι, w) = rg Z d rx_m87 18 L S (rz_mk h (rz_up ι a 1 x), w) := rz_pI rfl c hz
theorem g87_18 : rg Z d rx_m87 18 [some (.ref a)] S (rz_mk h ι, w) = rg Z d rx_m87 19 [some (.ref a)] (.ref a :: S) (rz_mk h ι, w) := rz_s1 fun _ => rfl
theorem g87_19 : rg Z d rx_m87 19 L S (rz_mk h ι, w) = rg Z d rx_m87 20 L (.int 0 :: S) (rz_mk h ι, w) := rz_s1 fun _ => rfl
theorem g87_20 (c : rz_fI h a 9 2) (hz : Z.2.1 ≤ a) : rg Z d rx_m87 20 L (.int x :: .ref a :: S) (rz_mk h ι, w) = rg Z d rx_m87 23 L S (rz_mk h (rz_up ι a 2 x), w) := rz_pI rfl c hz
theorem g87_23 : rg Z d rx_m87 23 [some (.ref a)] S (rz_mk h ι, w) = rg Z d rx_m87 24 [some (.ref a)] (.ref a :: S) (rz_mk h ι, w) := rz_s1 fun _ => rfl
theorem g87_24 : rg Z d rx_m87 24 L S (rz_mk h ι, w) = rg Z d rx_m87 25 L (.int 0 :: S) (rz_mk h ι, w) := rz_s1 fun _ => rfl
theorem g87_25 (c : rz_fI h a 9 3) (hz : Z.2.1 ≤ a) : rg Z d rx_m87 25 L (.int x :: .ref a :: S) (rz_mk h ι, w) = rg Z d rx_m87 28 L S (rz_mk h (rz_up ι a 3 x), w) := rz_pI rfl c hz
theorem g87_28 : rg Z d rx_m87 28 [some (.ref a)] S (rz_mk h ι, w) = rg Z d rx_m87 29 [some (.ref a)] (.ref a :: S) (rz_mk h ι, w) := rz_s1 fun _ => rfl
theorem g87_29 : rg Z d rx_m87 29 L S (rz_mk h ι, w) = rg Z d rx_m87 30 L (.int 0 :: S) (rz_mk h ι, w) := rz_s1 fun _ => rfl
theorem g87_30 (c : rz_fI h a 9 4) (hz : Z.2.1 ≤ a) : rg Z d rx_m87 30 L (.int x :: .ref a :: S) (rz_mk h ι, w) = rg Z d rx_m87 33 L S (rz_mk h (rz_up ι a 4 x), w) := rz_pI rfl c hz
theorem g87_33 : rg Z d rx_m87 33 [some (.ref a)] S (rz_mk h ι, w) = rg Z d rx_m87 34 [some (.ref a)] (.ref a :: S) (rz_mk h ι, w) := rz_s1 fun _ => rfl
theorem g87_34 : rg Z d rx_m87 34 L S (rz_mk h ι, w) = rg Z d rx_m87 35 L (.int 0 :: S) (rz_mk h ι, w) := rz_s1 fun _ => rfl
theorem g87_35 (c : rz_fI h a 9 5) (hz : Z.2.1 ≤ a) : rg Z d rx_m87 35 L (.int x :: .ref a :: S) (rz_mk h ι, w) = rg Z d rx_m87 38 L S (rz_mk h (rz_up ι a 5 x), w) := rz_pI rfl c hz
theorem g87_38 : rg Z d rx_m87 38 [some (.ref a)] S (rz_mk h ι, w) = rg Z d rx_m87 39 [some (.ref a)] (.ref a :: S) (rz_mk h ι, w) := rz_s1 fun _ => rfl
theorem g87_39 : rg Z d rx_m87 39 L S (rz_mk h ι, w) = rg Z d rx_m87 40 L (.int (-1) :: S) (rz_mk h ι, w) := rz_s1 fun _ => rfl
theorem g87_40 (c : rz_fI h a 9 6) (hz : Z.2.1 ≤ a) : rg Z d rx_m87 40 L (.int x :: .ref a :: S) (rz_mk h ι, w) = rg Z d rx_m87 43 L S (rz_mk h (rz_up ι a 6 x), w) := rz_pI rfl c hz
theorem g87_43 : rg Z d rx_m87 43 L [] (rz_mk h ι, w) = some (.inl none, (rz_mk h ι, w)) := rz_r1 fun _ => rfl
theorem e87 : rz_f Z (d + 1) 87 [.ref t0] σ = rg Z d rx_m87 0 [some (.ref t0)] [] σ := rz_f_eq rfl (Nat.le_of_ble_eq_true rfl)
theorem g88_0 : rg Z d rx_m88 0 [some (.ref a), l1, l2] S (rz_mk h ι, w) = rg Z d rx_m88 1 [some (.ref a), l1, l2] (.ref a :: S) (rz_mk h ι, w) := rz_s1 fun _ => rfl
theorem g88_1 (c : rz_fI h a 9 5) : rg Z d rx_m88 1 L (.ref a :: S) (rz_mk h ι, w) = rg Z d rx_m88 4 L (.int (ι a 5) :: S) (rz_mk h ι, w) := rz_gI rfl (by decide) c
theorem g88_4 : rg Z d rx_m88 4 L S (rz_mk h ι, w) = rg Z d rx_m88 5 L (.int 4 :: S) (rz_mk h ι, w) := rz_s1 fun _ => rfl
theorem g88_5 : rg Z d rx_m88 5 L (.int y :: .int x :: S) (rz_mk h ι, w) = rg Z d rx_m88 6 L (.int (x + y) :: S) (rz_mk h ι, w) := rz_s1 fun _ => rfl
theorem g88_6 : rg Z d rx_m88 6 [some (.ref a), l1, l2] S (rz_mk h ι, w) = rg Z d rx_m88 7 [some (.ref a), l1, l2] (.ref a :: S) (rz_mk h ι, w) := rz_s1 fun _ => rfl
theorem g88_7 (c : rz_fR h a 9 0) : rg Z d rx_m88 7 L (.ref a :: S) (rz_mk h ι, w) = rg Z d rx_m88 10 L (rz_rv h a 0 :: S) (rz_mk h ι, w) := rz_gR rfl (by decide) c
theorem g88_10 (c : rz_ar h a 0) : rg Z d rx_m88 10 L (.ref a :: S) (rz_mk h ι, w) = rg Z d rx_m88 11 L (.int (Int32.ofNat (rz_ln h a)) :: S) (rz_mk h ι, w) := rz_alen (by decide) rfl c
theorem g88_11 : rg Z d rx_m88 11 L (.int y :: .int x :: S) (rz_mk h ι, w) = if y < x then rg Z d rx_m88 61 L S (rz_mk h ι, w) else rg Z d rx_m88 14 L S (rz_mk h ι, w) := rz_if2 (pc := 11) (t := 61) (off := 50) (cc := .gt) (by decide) rfl
theorem g88_14 : rg Z d rx_m88 14 L S (rz_mk h ι, w) = rg Z d rx_m88 15 L (.int 0 :: S) (rz_mk h ι, w) := rz_s1 fun _ => rfl
theorem g88_15 : rg Z d rx_m88 15 [l0, some (.int z), l2] (.int x :: S) (rz_mk h ι, w) = rg Z d rx_m88 16 [l0, some (.int z), some (.int x)] S (rz_mk h ι, w) := rz_s1 fun _ => rfl
theorem g88_16 : rg Z d rx_m88 16 [l0, l1, some (.int x)] S (rz_mk h ι, w) = rg Z d rx_m88 17 [l0, l1, some (.int x)] (.int x :: S) (rz_mk h ι, w) := rz_s1 fun _ => rfl
theorem g88_17 : rg Z d rx_m88 17 L S (rz_mk h ι, w) = rg Z d rx_m88 18 L (.int 4 :: S) (rz_mk h ι, w) := rz_s1 fun _ => rfl
theorem g88_18 : rg Z d rx_m88 18 L (.int y :: .int x :: S) (rz_mk h ι, w) = if x < y then rg Z d rx_m88 21 L S (rz_mk h ι, w) else rg Z d rx_m88 51 L S (rz_mk h ι, w) := rz_if2 (pc := 18) (t := 51) (off := 33) (cc := .ge) (by decide) rfl
theorem g88_21 : rg Z d rx_m88 21 [some (.ref a), l1, l2] S (rz_mk h ι, w) = rg Z d rx_m88 22 [some (.ref a), l1, l2] (.ref a :: S) (rz_mk h ι, w) := rz_s1 fun _ => rfl
theorem g88_22 (c : rz_fR h a 9 0) : rg Z d rx_m88 22 L (.ref a :: S) (rz_mk h ι, w) = rg Z d rx_m88 25 L (rz_rv h a 0 :: S) (rz_mk h ι, w) := rz_gR rfl (by decide) c
theorem g88_25 : rg Z d rx_m88 25 [some (.ref a), l1, l2] S (rz_mk h ι, w) = rg Z d rx_m88 26 [some (.ref a), l1, l2] (.ref a :: S) (rz_mk h ι, w) := rz_s1 fun _ => rfl
theorem g88_26 (c : rz_fI h a 9 5) : rg Z d rx_m88 26 L (.ref a :: S) (rz_mk h ι, w) = rg Z d rx_m88 29 L (.int (ι a 5) :: S) (rz_mk h ι, w) := rz_gI rfl (by decide) c
theorem g88_29 : rg Z d rx_m88 29 [l0, l1, some (.int x)] S (rz_mk h ι, w) = rg Z d rx_m88 30 [l0, l1, some (.int x)] (.int x :: S) (rz_mk h ι, w) := rz_s1 fun _ => rfl
theorem g88_30 : rg Z d rx_m88 30 L (.int y :: .int x :: S) (rz_mk h ι, w) = rg Z d rx_m88 31 L (.int (x + y) :: S) (rz_mk h ι, w) := rz_s1 fun _ => rfl
theorem g88_31 : rg Z d rx_m88 31 [l0, some (.int x), l2] S (rz_mk h ι, w) = rg Z d rx_m88 32 [l0, some (.int x), l2] (.int x :: S) (rz_mk h ι, w) := rz_s1 fun _ => rfl
theorem g88_32 : rg Z d rx_m88 32 L S (rz_mk h ι, w) = rg Z d rx_m88 34 L (.int 24 :: S) (rz_mk h ι, w) := rz_s1 fun _ => rfl
theorem g88_34 : rg Z d rx_m88 34 L S (rz_mk h ι, w) = rg Z d rx_m88 36 L (.int 8 :: S) (rz_mk h ι, w) := rz_s1 fun _ => rfl
theorem g88_36 : rg Z d rx_m88 36 [l0, l1, some (.int x)] S (rz_mk h ι, w) = rg Z d rx_m88 37 [l0, l1, some (.int x)] (.int x :: S) (rz_mk h ι, w) := rz_s1 fun _ => rfl
theorem g88_37 : rg Z d rx_m88 37 L (.int y :: .int x :: S) (rz_mk h ι, w) = rg Z d rx_m88 38 L (.int (x * y) :: S) (rz_mk h ι, w) := rz_s1 fun _ => rfl
theorem g88_38 : rg Z d rx_m88 38 L (.int y :: .int x :: S) (rz_mk h ι, w) = rg Z d rx_m88 39 L (.int (x - y) :: S) (rz_mk h ι, w) := rz_s1 fun _ => rfl
theorem g88_39 : rg Z d rx_m88 39 L (.int y :: .int x :: S) (rz_mk h ι, w) = rg Z d rx_m88 40 L (.int ((x.toUInt32 >>> (y.toUInt32 &&& Int32.toUInt32 31)).toInt32) :: S) (rz_mk h ι, w) := rz_s1 fun _ => rfl
theorem g88_40 : rg Z d rx_m88 40 L S (rz_mk h ι, w) = rg Z d rx_m88 43 L (.int 255 :: S) (rz_mk h ι, w) := rz_s1 fun _ => rfl
theorem g88_43 : rg Z d rx_m88 43 L (.int y :: .int x :: S) (rz_mk h ι, w) = rg Z d rx_m88 44 L (.int (x &&& y) :: S) (rz_mk h ι, w) := rz_s1 fun _ => rfl
theorem g88_44 (c : rz_ar h a 0) (hi : rz_ix x (rz_ln h a)) (hz : Z.2.1 ≤ a) : rg Z d rx_m88 44 L (.int y :: .int x :: .ref a :: S) (rz_mk h ι, w) = rg Z d rx_m88 45 L S (rz_mk h (rz_up ι a x.toNatClampNeg y), w) := rz_iast rfl c hi hz
theorem g88_45 : rg Z d rx_m88 45 [l0, some (.int z), some (.int x)] S (rz_mk h ι, w) = rg Z d rx_m88 48 [l0, some (.int z), some (.int (x + 1))] S (rz_mk h ι, w) := rz_s1 fun _ => rfl
theorem g88_48 : rg Z d rx_m88 48 L S (rz_mk h ι, w) = rg Z d rx_m88 16 L S (rz_mk h ι, w) := rz_s1 fun _ => rfl
theorem g88_51 : rg Z d rx_m88 51 [some (.ref a), l1, l2] S (rz_mk h ι, w) = rg Z d rx_m88 52 [some (.ref a), l1, l2] (.ref a :: S) (rz_mk h ι, w) := rz_s1 fun _ => rfl
theorem g88_52 : rg Z d rx_m88 52 L (.ref a :: S) (rz_mk h ι, w) = rg Z d rx_m88 53 L (.ref a :: .ref a :: S) (rz_mk h ι, w) := rz_s1 fun _ => rfl
theorem g88_53 (c : rz_fI h a 9 5) : rg Z d rx_m88 53 L (.ref a :: S) (rz_mk h ι, w) = rg Z d rx_m88 56 L (.int (ι a 5) :: S) (rz_mk h ι, w) := rz_gI rfl (by decide) c
theorem g88_56 : rg Z d rx_m88 56 L S (rz_mk h ι, w) = rg Z d rx_m88 57 L (.int 4 :: S) (rz_mk h ι, w) := rz_s1 fun _ => rfl
theorem g88_57 : rg Z d rx_m88 57 L (.int y :: .int x :: S) (rz_mk h ι, w) = rg Z d rx_m88 58 L (.int (x + y) :: S) (rz_mk h ι, w) := rz_s1 fun _ => rfl
theorem g88_58 (c : rz_fI h a 9 5) (hz : Z.2.1 ≤ a) : rg Z d rx_m88 58 L (.int x :: .ref a :: S) (rz_mk h ι, w) = rg Z d rx_m88 61 L S (rz_mk h (rz_up ι a 5 x), w) := rz_pI rfl c hz
theorem g88_61 : rg Z d rx_m88 61 L [] (rz_mk h ι, w) = some (.inl none, (rz_mk h ι, w)) := rz_r1 fun _ => rfl
theorem e88 : rz_f Z (d + 1) 88 [.ref t0, .int s1] σ = rg Z d rx_m88 0 [some (.ref t0), some (.int s1), none] [] σ := rz_f_eq rfl (Nat.le_of_ble_eq_true rfl)
theorem g89_0 : rg Z d rx_m89 0 [some (.ref a), l1] S (rz_mk h ι, w) = rg Z d rx_m89 1 [some (.ref a), l1] (.ref a :: S) (rz_mk h ι, w) := rz_s1 fun _ => rfl
theorem g89_1 : rg Z d rx_m89 1 L S (rz_mk h ι, w) = rg Z d rx_m89 2 L (.int 0 :: S) (rz_mk h ι, w) := rz_s1 fun _ => rfl
theorem g89_2 : rg Z d rx_m89 2 [l0, some (.int x)] S (rz_mk h ι, w) = rg Z d rx_m89 3 [l0, some (.int x)] (.int x :: S) (rz_mk h ι, w) := rz_s1 fun _ => rfl
theorem g89_3 : rg Z d rx_m89 3 [some (.ref a), l1] S (rz_mk h ι, w) = rg Z d rx_m89 4 [some (.ref a), l1] (.ref a :: S) (rz_mk h ι, w) := rz_s1 fun _ => rfl
theorem g89_4 (c : rz_fR h a 9 0) : rg Z d rx_m89 4 L (.ref a :: S) (rz_mk h ι, w) = rg Z d rx_m89 7 L (rz_rv h a 0 :: S) (rz_mk h ι, w) := rz_gR rfl (by decide) c
theorem g89_7 (c : rz_ar h a 0) : rg Z d rx_m89 7 L (.ref a :: S) (rz_mk h ι, w) = rg Z d rx_m89 8 L (.int (Int32.ofNat (rz_ln h a)) :: S) (rz_mk h ι, w) := rz_alen (by decide) rfl c
theorem g89_8 : rg Z d rx_m89 8 L (.int y :: .int x :: [.int s0, .ref t1]) (rz_mk h ι, w) = rg Z d rx_m89 11 L (.int (if y < x then y else x) :: [.int s0, .ref t1]) (rz_mk h ι, w) := rz_min rfl (Nat.le_of_ble_eq_true rfl)
theorem g89_11 : rg Z d rx_m89 11 L (.int y :: .int x :: [.ref t0]) (rz_mk h ι, w) = rg Z d rx_m89 14 L (.int (if x < y then y else x) :: [.ref t0]) (rz_mk h ι, w) := rz_max rfl (Nat.le_of_ble_eq_true rfl)
theorem g89_14 (c : rz_fI h a 9 1) (hz : Z.2.1 ≤ a) : rg Z d rx_m89 14 L (.int x :: .ref a :: S) (rz_mk h ι, w) = rg Z d rx_m89 17 L S (rz_mk h (rz_up ι a 1 x), w) := rz_pI rfl c hz
theorem g89_17 : rg Z d rx_m89 17 [some (.ref a), l1] S (rz_mk h ι, w) = rg Z d rx_m89 18 [some (.ref a), l1] (.ref a :: S) (rz_mk h ι, w) := rz_s1 fun _ => rfl
theorem g89_18 : rg Z d rx_m89 18 L S (rz_mk h ι, w) = rg Z d rx_m89 19 L (.int 0 :: S) (rz_mk h ι, w) := rz_s1 fun _ => rfl
theorem g89_19 (c : rz_fI h a 9 2) (hz : Z.2.1 ≤ a) : rg Z d rx_m89 19 L (.int x :: .ref a :: S) (rz_mk h ι, w) = rg Z d rx_m89 22 L S (rz_mk h (rz_up ι a 2 x), w) := rz_pI rfl c hz
theorem g89_22 : rg Z d rx_m89 22 [some (.ref a), l1] S (rz_mk h ι, w) = rg Z d rx_m89 23 [some (.ref a), l1] (.ref a :: S) (rz_mk h ι, w) := rz_s1 fun _ => rfl
theorem g89_23 : rg Z d rx_m89 23 L S (rz_mk h ι, w) = rg Z d rx_m89 24 L (.int 0 :: S) (rz_mk h ι, w) := rz_s1 fun _ => rfl
theorem g89_24 (c : rz_fI h a 9 4) (hz : Z.2.1 ≤ a) : rg Z d rx_m89 24 L (.int x :: .ref a :: S) (rz_mk h ι, w) = rg Z d rx_m89 27 L S (rz_mk h (rz_up ι a 4 x), w) := rz_pI rfl c hz
theorem g89_27 : rg Z d rx_m89 27 [some (.ref a), l1] S (rz_mk h ι, w) = rg Z d rx_m89 28 [some (.ref a), l1] (.ref a :: S) (rz_mk h ι, w) := rz_s1 fun _ => rfl
theorem g89_28 : rg Z d rx_m89 28 L S (rz_mk h ι, w) = rg Z d rx_m89 29 L (.int (-1) :: S) (rz_mk h ι, w) := rz_s1 fun _ => rfl
theorem g89_29 (c : rz_fI h a 9 6) (hz : Z.2.1 ≤ a) : rg Z d rx_m89 29 L (.int x :: .ref a :: S) (rz_mk h ι, w) = rg Z d rx_m89 32 L S (rz_mk h (rz_up ι a 6 x), w) := rz_pI rfl c hz
theorem g89_32 : rg Z d rx_m89 32 [some (.ref a), l1] S (rz_mk h ι, w) = rg Z d rx_m89 33 [some (.ref a), l1] (.ref a :: S) (rz_mk h ι, w) := rz_s1 fun _ => rfl
theorem g89_33 : rg Z d rx_m89 33 L S (rz_mk h ι, w) = rg Z d rx_m89 34 L (.int 0 :: S) (rz_mk h ι, w) := rz_s1 fun _ => rfl
theorem g89_34 (c : rz_fI h a 9 5) (hz : Z.2.1 ≤ a) : rg Z d rx_m89 34 L (.int x :: .ref a :: S) (rz_mk h ι, w) = rg Z d rx_m89 37 L S (rz_mk h (rz_up ι a 5 x), w) := rz_pI rfl c hz
theorem g89_37 : rg Z d rx_m89 37 L [] (rz_mk h ι, w) = some (.inl none, (rz_mk h ι, w)) := rz_r1 fun _ => rfl
theorem e89 : rz_f Z (d + 1) 89 [.ref t0, .int s1] σ = rg Z d rx_m89 0 [some (.ref t0), some (.int s1)] [] σ := rz_f_eq rfl (Nat.le_of_ble_eq_true rfl)
theorem g90_0 : rg Z d rx_m90 0 [some (.ref a)] S (rz_mk h ι, w) = rg Z d rx_m90 1 [some (.ref a)] (.ref a :: S) (rz_mk h ι, w) := rz_s1 fun _ => rfl
theorem g90_1 (c : rz_fI h a 9 4) : rg Z d rx_m90 1 L (.ref a :: S) (rz_mk h ι, w) = rg Z d rx_m90 4 L (.int (ι a 4) :: S) (rz_mk h ι, w) := rz_gI rfl (by decide) c
theorem g90_4 : rg Z d rx_m90 4 L S (rz_mk h ι, w) = rg Z d rx_m90 6 L (.int 10 :: S) (rz_mk h ι, w) := rz_s1 fun _ => rfl
theorem g90_6 : rg Z d rx_m90 6 L (.int y :: .int x :: S) (rz_mk h ι, w) = rg Z d rx_m90 7 L (.int (x - y) :: S) (rz_mk h ι, w) := rz_s1 fun _ => rfl
theorem g90_7 : rg Z d rx_m90 7 L [.int x] (rz_mk h ι, w) = some (.inl (some (.int x)), (rz_mk h ι, w)) := rz_reti rfl rfl rfl
theorem e90 : rz_f Z (d + 1) 90 [.ref t0] σ = rg Z d rx_m90 0 [some (.ref t0)] [] σ := rz_f_eq rfl (Nat.le_of_ble_eq_true rfl)
theorem g91_0 : rg Z d rx_m91 0 [some (.ref a), l1, l2] S (rz_mk h ι, w) = rg Z d rx_m91 1 [some (.ref a), l1, l2] (.ref a :: S) (rz_mk h ι, w) := rz_s1 fun _ => rfl
theorem g91_1 : rg Z d rx_m91 1 [l0, some (.int x), l2] S (rz_mk h ι, w) = rg Z d rx_m91 2 [l0, some (.int x), l2] (.int x :: S) (rz_mk h ι, w) := rz_s1 fun _ => rfl
theorem g91_2 (c : rz_fI h a 9 4) (hz : Z.2.1 ≤ a) : rg Z d rx_m91 2 L (.int x :: .ref a :: S) (rz_mk h ι, w) = rg Z d rx_m91 5 L S (rz_mk h (rz_up ι a 4 x), w) := rz_pI rfl c hz
theorem g91_5 : rg Z d rx_m91 5 [some (.ref a), l1, l2] S (rz_mk h ι, w) = rg Z d rx_m91 6 [some (.ref a), l1, l2] (.ref a :: S) (rz_mk h ι, w) := rz_s1 fun _ => rfl
theorem g91_6 : rg Z d rx_m91 6 [l0, l1, some (.int x)] S (rz_mk h ι, w) = rg Z d rx_m91 7 [l0, l1, some (.int x)] (.int x :: S) (rz_mk h ι, w) := rz_s1 fun _ => rfl
theorem g91_7 (c : rz_fI h a 9 6) (hz : Z.2.1 ≤ a) : rg Z d rx_m91 7 L (.int x :: .ref a :: S) (rz_mk h ι, w) = rg Z d rx_m91 10 L S (rz_mk h (rz_up ι a 6 x), w) := rz_pI rfl c hz
theorem g91_10 : rg Z d rx_m91 10 L S (rz_mk h ι, w) = rg Z d rx_m91 11 L (.int 0 :: S) (rz_mk h ι, w) := rz_s1 fun _ => rfl
theorem g91_11 (c : narrow .boolean (.int x) = .int x) : rg Z d rx_m91 11 L [.int x] (rz_mk h ι, w) = some (.inl (some (.int x)), (rz_mk h ι, w)) := rz_reti rfl rfl c
theorem e91 : rz_f Z (d + 1) 91 [.ref t0, .int s1, .int s2] σ = rg Z d rx_m91 0 [some (.ref t0), some (.int s1), some (.int s2)] [] σ := rz_f_eq rfl (Nat.le_of_ble_eq_true rfl)
theorem g92_0 : rg Z d rx_m92 0 [some (.ref a), l1] S (rz_mk h ι, w) = rg Z d rx_m92 1 [some (.ref a), l1] (.ref a :: S) (rz_mk h ι, w) := rz_s1 fun _ => rfl
theorem g92_1 : rg Z d rx_m92 1 [l0, some (.int x)] S (rz_mk h ι, w) = rg Z d rx_m92 2 [l0, some (.int x)] (.int x :: S) (rz_mk h ι, w) := rz_s1 fun _ => rfl
theorem g92_2 (c : rz_fI h a 9 4) (hz : Z.2.1 ≤ a) : rg Z d rx_m92 2 L (.int x :: .ref a :: S) (rz_mk h ι, w) = rg Z d rx_m92 5 L S (rz_mk h (rz_up ι a 4 x), w) := rz_pI rfl c hz
theorem g92_5 : rg Z d rx_m92 5 [some (.ref a), l1] S (rz_mk h ι, w) = rg Z d rx_m92 6 [some (.ref a), l1] (.ref a :: S) (rz_mk h ι, w) := rz_s1 fun _ => rfl
theorem g92_6 : rg Z d rx_m92 6 [some (.ref a), l1] S (rz_mk h ι, w) = rg Z d rx_m92 7 [some (.ref a), l1] (.ref a :: S) (rz_mk h ι, w) := rz_s1 fun _ => rfl
theorem g92_7 (c : rz_fI h a 9 3) : rg Z d rx_m92 7 L (.ref a :: S) (rz_mk h ι, w) = rg Z d rx_m92 10 L (.int (ι a 3) :: S) (rz_mk h ι, w) := rz_gI rfl (by decide) c
theorem g92_10 (c : rz_fI h a 9 6) (hz : Z.2.1 ≤ a) : rg Z d rx_m92 10 L (.int x :: .ref a :: S) (rz_mk h ι, w) = rg Z d rx_m92 13 L S (rz_mk h (rz_up ι a 6 x), w) := rz_pI rfl c hz
theorem g92_13 : rg Z d rx_m92 13 L S (rz_mk h ι, w) = rg Z d rx_m92 14 L (.int 0 :: S) (rz_mk h ι, w) := rz_s1 fun _ => rfl
theorem g92_14 (c : narrow .boolean (.int x) = .int x) : rg Z d rx_m92 14 L [.int x] (rz_mk h ι, w) = some (.inl (some (.int x)), (rz_mk h ι, w)) := rz_reti rfl rfl c
theorem e92 : rz_f Z (d + 1) 92 [.ref t0, .int s1] σ = rg Z d rx_m92 0 [some (.ref t0), some (.int s1)] [] σ := rz_f_eq rfl (Nat.le_of_ble_eq_true rfl)
theorem g93_0 : rg Z d rx_m93 0 [some (.int x)] S (rz_mk h ι, w) = rg Z d rx_m93 1 [some (.int x)] (.int x :: S) (rz_mk h ι, w) := rz_s1 fun _ => rfl
theorem g93_1 : rg Z d rx_m93 1 L S (rz_mk h ι, w) = rg Z d rx_m93 3 L (.int 48 :: S) (rz_mk h ι, w) := rz_s1 fun _ => rfl
theorem g93_3 : rg Z d rx_m93 3 L (.int y :: .int x :: S) (rz_mk h ι, w) = if x < y then rg Z d rx_m93 16 L S (rz_mk h ι, w) else rg Z d rx_m93 6 L S (rz_mk h ι, w) := rz_if2 (pc := 3) (t := 16) (off := 13) (cc := .lt) (by decide) rfl
theorem g93_6 : rg Z d rx_m93 6 [some (.int x)] S (rz_mk h ι, w) = rg Z d rx_m93 7 [some (.int x)] (.int x :: S) (rz_mk h ι, w) := rz_s1 fun _ => rfl
theorem g93_7 : rg Z d rx_m93 7 L S (rz_mk h ι, w) = rg Z d rx_m93 9 L (.int 57 :: S) (rz_mk h ι, w) := rz_s1 fun _ => rfl
theorem g93_9 : rg Z d rx_m93 9 L (.int y :: .int x :: S) (rz_mk h ι, w) = if y < x then rg Z d rx_m93 16 L S (rz_mk h ι, w) else rg Z d rx_m93 12 L S (rz_mk h ι, w) := rz_if2 (pc := 9) (t := 16) (off := 7) (cc := .gt) (by decide) rfl
theorem g93_12 : rg Z d rx_m93 12 L S (rz_mk h ι, w) = rg Z d rx_m93 13 L (.int 1 :: S) (rz_mk h ι, w) := rz_s1 fun _ => rfl
theorem g93_13 : rg Z d rx_m93 13 L S (rz_mk h ι, w) = rg Z d rx_m93 17 L S (rz_mk h ι, w) := rz_s1 fun _ => rfl
theorem g93_16 : rg Z d rx_m93 16 L S (rz_mk h ι, w) = rg Z d rx_m93 17 L (.int 0 :: S) (rz_mk h ι, w) := rz_s1 fun _ => rfl
theorem g93_17 (c : narrow .boolean (.int x) = .int x) : rg Z d rx_m93 17 L [.int x] (rz_mk h ι, w) = some (.inl (some (.int x)), (rz_mk h ι, w)) := rz_reti rfl rfl c
theorem e93 : rz_f Z (d + 1) 93 [.int s0] σ = rg Z d rx_m93 0 [some (.int s0)] [] σ := rz_f_eq rfl (Nat.le_of_ble_eq_true rfl)
theorem g94_0 : rg Z d rx_m94 0 [some (.ref a)] S (rz_mk h ι, w) = rg Z d rx_m94 1 [some (.ref a)] (.ref a :: S) (rz_mk h ι, w) := rz_s1 fun _ => rfl
theorem g94_1 (c : rz_fI h a 9 2) : rg Z d rx_m94 1 L (.ref a :: S) (rz_mk h ι, w) = rg Z d rx_m94 4 L (.int (ι a 2) :: S) (rz_mk h ι, w) := rz_gI rfl (by decide) c
theorem g94_4 : rg Z d rx_m94 4 [some (.ref a)] S (rz_mk h ι, w) = rg Z d rx_m94 5 [some (.ref a)] (.ref a :: S) (rz_mk h ι, w) := rz_s1 fun _ => rfl
theorem g94_5 (c : rz_fI h a 9 1) : rg Z d rx_m94 5 L (.ref a :: S) (rz_mk h ι, w) = rg Z d rx_m94 8 L (.int (ι a 1) :: S) (rz_mk h ι, w) := rz_gI rfl (by decide) c
theorem g94_8 : rg Z d rx_m94 8 L (.int y :: .int x :: S) (rz_mk h ι, w) = if x < y then rg Z d rx_m94 11 L S (rz_mk h ι, w) else rg Z d rx_m94 38 L S (rz_mk h ι, w) := rz_if2 (pc := 8) (t := 38) (off := 30) (cc := .ge) (by decide) rfl
theorem g94_11 : rg Z d rx_m94 11 [some (.ref a)] S (rz_mk h ι, w) = rg Z d rx_m94 12 [some (.ref a)] (.ref a :: S) (rz_mk h ι, w) := rz_s1 fun _ => rfl
theorem g94_12 (c : rz_fR h a 9 0) : rg Z d rx_m94 12 L (.ref a :: S) (rz_mk h ι, w) = rg Z d rx_m94 15 L (rz_rv h a 0 :: S) (rz_mk h ι, w) := rz_gR rfl (by decide) c
theorem g94_15 : rg Z d rx_m94 15 [some (.ref a)] S (rz_mk h ι, w) = rg Z d rx_m94 16 [some (.ref a)] (.ref a :: S) (rz_mk h ι, w) := rz_s1 fun _ => rfl
theorem g94_16 (c : rz_fI h a 9 2) : rg Z d rx_m94 16 L (.ref a :: S) (rz_mk h ι, w) = rg Z d rx_m94 19 L (.int (ι a 2) :: S) (rz_mk h ι, w) := rz_gI rfl (by decide) c
theorem g94_19 (c : rz_ar h a 0) (hi : rz_ix x (rz_ln h a)) : rg Z d rx_m94 19 L (.int x :: .ref a :: S) (rz_mk h ι, w) = rg Z d rx_m94 20 L (.int (ι a x.toNatClampNeg) :: S) (rz_mk h ι, w) := rz_iald rfl c hi
theorem g94_20 : rg Z d rx_m94 20 L S (rz_mk h ι, w) = rg Z d rx_m94 22 L (.int 32 :: S) (rz_mk h ι, w) := rz_s1 fun _ => rfl
theorem g94_22 : rg Z d rx_m94 22 L (.int y :: .int x :: S) (rz_mk h ι, w) = if x = y then rg Z d rx_m94 25 L S (rz_mk h ι, w) else rg Z d rx_m94 38 L S (rz_mk h ι, w) := rz_if2 (pc := 22) (t := 38) (off := 16) (cc := .ne) (by decide) rfl
theorem g94_25 : rg Z d rx_m94 25 [some (.ref a)] S (rz_mk h ι, w) = rg Z d rx_m94 26 [some (.ref a)] (.ref a :: S) (rz_mk h ι, w) := rz_s1 fun _ => rfl
theorem g94_26 : rg Z d rx_m94 26 L (.ref a :: S) (rz_mk h ι, w) = rg Z d rx_m94 27 L (.ref a :: .ref a :: S) (rz_mk h ι, w) := rz_s1 fun _ => rfl
theorem g94_27 (c : rz_fI h a 9 2) : rg Z d rx_m94 27 L (.ref a :: S) (rz_mk h ι, w) = rg Z d rx_m94 30 L (.int (ι a 2) :: S) (rz_mk h ι, w) := rz_gI rfl (by decide) c
theorem g94_30 : rg Z d rx_m94 30 L S (rz_mk h ι, w) = rg Z d rx_m94 31 L (.int 1 :: S) (rz_mk h ι, w) := rz_s1 fun _ => rfl
theorem g94_31 : rg Z d rx_m94 31 L (.int y :: .int x :: S) (rz_mk h ι, w) = rg Z d rx_m94 32 L (.int (x + y) :: S) (rz_mk h ι, w) := rz_s1 fun _ => rfl
theorem g94_32 (c : rz_fI h a 9 2) (hz : Z.2.1 ≤ a) : rg Z d rx_m94 32 L (.int x :: .ref a :: S) (rz_mk h ι, w) = rg Z d rx_m94 35 L S (rz_mk h (rz_up ι a 2 x), w) := rz_pI rfl c hz
theorem g94_35 : rg Z d rx_m94 35 L S (rz_mk h ι, w) = rg Z d rx_m94 0 L S (rz_mk h ι, w) := rz_s1 fun _ => rfl
theorem g94_38 : rg Z d rx_m94 38 [some (.ref a)] S (rz_mk h ι, w) = rg Z d rx_m94 39 [some (.ref a)] (.ref a :: S) (rz_mk h ι, w) := rz_s1 fun _ => rfl
theorem g94_39 (c : rz_fI h a 9 2) : rg Z d rx_m94 39 L (.ref a :: S) (rz_mk h ι, w) = rg Z d rx_m94 42 L (.int (ι a 2) :: S) (rz_mk h ι, w) := rz_gI rfl (by decide) c
theorem g94_42 : rg Z d rx_m94 42 [some (.ref a)] S (rz_mk h ι, w) = rg Z d rx_m94 43 [some (.ref a)] (.ref a :: S) (rz_mk h ι, w) := rz_s1 fun _ => rfl
theorem g94_43 (c : rz_fI h a 9 1) : rg Z d rx_m94 43 L (.ref a :: S) (rz_mk h ι, w) = rg Z d rx_m94 46 L (.int (ι a 1) :: S) (rz_mk h ι, w) := rz_gI rfl (by decide) c
theorem g94_46 : rg Z d rx_m94 46 L (.int y :: .int x :: S) (rz_mk h ι, w) = if x < y then rg Z d rx_m94 49 L S (rz_mk h ι, w) else rg Z d rx_m94 61 L S (rz_mk h ι, w) := rz_if2 (pc := 46) (t := 61) (off := 15) (cc := .ge) (by decide) rfl
theorem g94_49 : rg Z d rx_m94 49 [some (.ref a)] S (rz_mk h ι, w) = rg Z d rx_m94 50 [some (.ref a)] (.ref a :: S) (rz_mk h ι, w) := rz_s1 fun _ => rfl
theorem g94_50 (c : rz_fR h a 9 0) : rg Z d rx_m94 50 L (.ref a :: S) (rz_mk h ι, w) = rg Z d rx_m94 53 L (rz_rv h a 0 :: S) (rz_mk h ι, w) := rz_gR rfl (by decide) c
theorem g94_53 : rg Z d rx_m94 53 [some (.ref a)] S (rz_mk h ι, w) = rg Z d rx_m94 54 [some (.ref a)] (.ref a :: S) (rz_mk h ι, w) := rz_s1 fun _ => rfl
theorem g94_54 (c : rz_fI h a 9 2) : rg Z d rx_m94 54 L (.ref a :: S) (rz_mk h ι, w) = rg Z d rx_m94 57 L (.int (ι a 2) :: S) (rz_mk h ι, w) := rz_gI rfl (by decide) c
theorem g94_57 (c : rz_ar h a 0) (hi : rz_ix x (rz_ln h a)) : rg Z d rx_m94 57 L (.int x :: .ref a :: S) (rz_mk h ι, w) = rg Z d rx_m94 58 L (.int (ι a x.toNatClampNeg) :: S) (rz_mk h ι, w) := rz_iald rfl c hi
theorem g94_58 : rg Z d rx_m94 58 L S (rz_mk h ι, w) = rg Z d rx_m94 62 L S (rz_mk h ι, w) := rz_s1 fun _ => rfl
theorem g94_61 : rg Z d rx_m94 61 L S (rz_mk h ι, w) = rg Z d rx_m94 62 L (.int (-1) :: S) (rz_mk h ι, w) := rz_s1 fun _ => rfl
theorem g94_62 : rg Z d rx_m94 62 L [.int x] (rz_mk h ι, w) = some (.inl (some (.int x)), (rz_mk h ι, w)) := rz_reti rfl rfl rfl
theorem e94 : rz_f Z (d + 1) 94 [.ref t0] σ = rg Z d rx_m94 0 [some (.ref t0)] [] σ := rz_f_eq rfl (Nat.le_of_ble_eq_true rfl)
theorem g95_0 : rg Z d rx_m95 0 [some (.ref a), l1] S (rz_mk h ι, w) = rg Z d rx_m95 1 [some (.ref a), l1] (.ref a :: S) (rz_mk h ι, w) := rz_s1 fun _ => rfl
theorem g95_1 (c : rz_oc h a 9) : rg Z d rx_m95 1 L (.ref a :: []) (rz_mk h ι, w) = rz_k true (rz_f Z d 94 [.ref a] (rz_mk h ι, w)) (fun v σ' => rg Z d rx_m95 4 L (v.toList ++ []) σ') := rz_cv (pc := 1) (n := 0) (mi := 94) (S := .ref a :: []) (rest := []) rfl rfl (Nat.le_of_ble_eq_true rfl) (Nat.le_of_ble_eq_true rfl) c
theorem g95_4 : rg Z d rx_m95 4 [l0, some (.int x)] S (rz_mk h ι, w) = rg Z d rx_m95 5 [l0, some (.int x)] (.int x :: S) (rz_mk h ι, w) := rz_s1 fun _ => rfl
theorem g95_5 : rg Z d rx_m95 5 L (.int y :: .int x :: S) (rz_mk h ι, w) = if x = y then rg Z d rx_m95 10 L S (rz_mk h ι, w) else rg Z d rx_m95 8 L S (rz_mk h ι, w) := rz_if2 (pc := 5) (t := 10) (off := 5) (cc := .eq) (by decide) rfl
theorem g95_8 : rg Z d rx_m95 8 L S (rz_mk h ι, w) = rg Z d rx_m95 9 L (.int 0 :: S) (rz_mk h ι, w) := rz_s1 fun _ => rfl
theorem g95_9 (c : narrow .boolean (.int x) = .int x) : rg Z d rx_m95 9 L [.int x] (rz_mk h ι, w) = some (.inl (some (.int x)), (rz_mk h ι, w)) := rz_reti rfl rfl c
theorem g95_10 : rg Z d rx_m95 10 [some (.ref a), l1] S (rz_mk h ι, w) = rg Z d rx_m95 11 [some (.ref a), l1] (.ref a :: S) (rz_mk h ι, w) := rz_s1 fun _ => rfl
theorem g95_11 : rg Z d rx_m95 11 L (.ref a :: S) (rz_mk h ι, w) = rg Z d rx_m95 12 L (.ref a :: .ref a :: S) (rz_mk h ι, w) := rz_s1 fun _ => rfl
theorem g95_12 (c : rz_fI h a 9 2) : rg Z d rx_m95 12 L (.ref a :: S) (rz_mk h ι, w) = rg Z d rx_m95 15 L (.int (ι a 2) :: S) (rz_mk h ι, w) := rz_gI rfl (by decide) c
theorem g95_15 : rg Z d rx_m95 15 L S (rz_mk h ι, w) = rg Z d rx_m95 16 L (.int 1 :: S) (rz_mk h ι, w) := rz_s1 fun _ => rfl
theorem g95_16 : rg Z d rx_m95 16 L (.int y :: .int x :: S) (rz_mk h ι, w) = rg Z d rx_m95 17 L (.int (x + y) :: S) (rz_mk h ι, w) := rz_s1 fun _ => rfl
theorem g95_17 (c : rz_fI h a 9 2) (hz : Z.2.1 ≤ a) : rg Z d rx_m95 17 L (.int x :: .ref a :: S) (rz_mk h ι, w) = rg Z d rx_m95 20 L S (rz_mk h (rz_up ι a 2 x), w) := rz_pI rfl c hz
theorem g95_20 : rg Z d rx_m95 20 L S (rz_mk h ι, w) = rg Z d rx_m95 21 L (.int 1 :: S) (rz_mk h ι, w) := rz_s1 fun _ => rfl
theorem g95_21 (c : narrow .boolean (.int x) = .int x) : rg Z d rx_m95 21 L [.int x] (rz_mk h ι, w) = some (.inl (some (.int x)), (rz_mk h ι, w)) := rz_reti rfl rfl c
theorem e95 : rz_f Z (d + 1) 95 [.ref t0, .int s1] σ = rg Z d rx_m95 0 [some (.ref t0), some (.int s1)] [] σ := rz_f_eq rfl (Nat.le_of_ble_eq_true rfl)
theorem g96_0 : rg Z d rx_m96 0 [some (.ref a), l1] S (rz_mk h ι, w) = rg Z d rx_m96 1 [some (.ref a), l1] (.ref a :: S) (rz_mk h ι, w) := rz_s1 fun _ => rfl
theorem g96_1 (c : rz_oc h a 9) : rg Z d rx_m96 1 L (.ref a :: []) (rz_mk h ι, w) = rz_k true (rz_f Z d 94 [.ref a] (rz_mk h ι, w)) (fun v σ' => rg Z d rx_m96 4 L (v.toList ++ []) σ') := rz_cv (pc := 1) (n := 0) (mi := 94) (S := .ref a :: []) (rest := []) rfl rfl (Nat.le_of_ble_eq_true rfl) (Nat.le_of_ble_eq_true rfl) c
theorem g96_4 : rg Z d rx_m96 4 [l0, some (.int x)] S (rz_mk h ι, w) = rg Z d rx_m96 5 [l0, some (.int x)] (.int x :: S) (rz_mk h ι, w) := rz_s1 fun _ => rfl
theorem g96_5 : rg Z d rx_m96 5 L (.int y :: .int x :: S) (rz_mk h ι, w) = if x = y then rg Z d rx_m96 18 L S (rz_mk h ι, w) else rg Z d rx_m96 8 L S (rz_mk h ι, w) := rz_if2 (pc := 5) (t := 18) (off := 13) (cc := .eq) (by decide) rfl
theorem g96_8 : rg Z d rx_m96 8 [some (.ref a), l1] S (rz_mk h ι, w) = rg Z d rx_m96 9 [some (.ref a), l1] (.ref a :: S) (rz_mk h ι, w) := rz_s1 fun _ => rfl
theorem g96_9 : rg Z d rx_m96 9 L S (rz_mk h ι, w) = rg Z d rx_m96 10 L (.int 1 :: S) (rz_mk h ι, w) := rz_s1 fun _ => rfl
theorem g96_10 : rg Z d rx_m96 10 [some (.ref a), l1] S (rz_mk h ι, w) = rg Z d rx_m96 11 [some (.ref a), l1] (.ref a :: S) (rz_mk h ι, w) := rz_s1 fun _ => rfl
theorem g96_11 (c : rz_fI h a 9 2) : rg Z d rx_m96 11 L (.ref a :: S) (rz_mk h ι, w) = rg Z d rx_m96 14 L (.int (ι a 2) :: S) (rz_mk h ι, w) := rz_gI rfl (by decide) c
theorem g96_14 (c : rz_oc h a 9) : rg Z d rx_m96 14 L (v2 :: v1 :: .ref a :: []) (rz_mk h ι, w) = rz_k true (rz_f Z d 91 [.ref a, v1, v2] (rz_mk h ι, w)) (fun v σ' => rg Z d rx_m96 17 L (v.toList ++ []) σ') := rz_cv (pc := 14) (n := 2) (mi := 91) (S := v2 :: v1 :: .ref a :: []) (rest := []) rfl rfl (Nat.le_of_ble_eq_true rfl) (Nat.le_of_ble_eq_true rfl) c
theorem g96_17 (c : narrow .boolean (.int x) = .int x) : rg Z d rx_m96 17 L [.int x] (rz_mk h ι, w) = some (.inl (some (.int x)), (rz_mk h ι, w)) := rz_reti rfl rfl c
theorem g96_18 : rg Z d rx_m96 18 [some (.ref a), l1] S (rz_mk h ι, w) = rg Z d rx_m96 19 [some (.ref a), l1] (.ref a :: S) (rz_mk h ι, w) := rz_s1 fun _ => rfl
theorem g96_19 : rg Z d rx_m96 19 L (.ref a :: S) (rz_mk h ι, w) = rg Z d rx_m96 20 L (.ref a :: .ref a :: S) (rz_mk h ι, w) := rz_s1 fun _ => rfl
theorem g96_20 (c : rz_fI h a 9 2) : rg Z d rx_m96 20 L (.ref a :: S) (rz_mk h ι, w) = rg Z d rx_m96 23 L (.int (ι a 2) :: S) (rz_mk h ι, w) := rz_gI rfl (by decide) c
theorem g96_23 : rg Z d rx_m96 23 L S (rz_mk h ι, w) = rg Z d rx_m96 24 L (.int 1 :: S) (rz_mk h ι, w) := rz_s1 fun _ => rfl
theorem g96_24 : rg Z d rx_m96 24 L (.int y :: .int x :: S) (rz_mk h ι, w) = rg Z d rx_m96 25 L (.int (x + y) :: S) (rz_mk h ι, w) := rz_s1 fun _ => rfl
theorem g96_25 (c : rz_fI h a 9 2) (hz : Z.2.1 ≤ a) : rg Z d rx_m96 25 L (.int x :: .ref a :: S) (rz_mk h ι, w) = rg Z d rx_m96 28 L S (rz_mk h (rz_up ι a 2 x), w) := rz_pI rfl c hz
theorem g96_28 : rg Z d rx_m96 28 L S (rz_mk h ι, w) = rg Z d rx_m96 29 L (.int 1 :: S) (rz_mk h ι, w) := rz_s1 fun _ => rfl
theorem g96_29 (c : narrow .boolean (.int x) = .int x) : rg Z d rx_m96 29 L [.int x] (rz_mk h ι, w) = some (.inl (some (.int x)), (rz_mk h ι, w)) := rz_reti rfl rfl c
theorem e96 : rz_f Z (d + 1) 96 [.ref t0, .int s1] σ = rg Z d rx_m96 0 [some (.ref t0), some (.int s1)] [] σ := rz_f_eq rfl (Nat.le_of_ble_eq_true rfl)
theorem g97_0 : rg Z d rx_m97 0 [some (.ref a)] S (rz_mk h ι, w) = rg Z d rx_m97 1 [some (.ref a)] (.ref a :: S) (rz_mk h ι, w) := rz_s1 fun _ => rfl
theorem g97_1 (c : rz_oc h a 9) : rg Z d rx_m97 1 L (.ref a :: []) (rz_mk h ι, w) = rz_k true (rz_f Z d 94 [.ref a] (rz_mk h ι, w)) (fun v σ' => rg Z d rx_m97 4 L (v.toList ++ []) σ') := rz_cv (pc := 1) (n := 0) (mi := 94) (S := .ref a :: []) (rest := []) rfl rfl (Nat.le_of_ble_eq_true rfl) (Nat.le_of_ble_eq_true rfl) c
theorem g97_4 : rg Z d rx_m97 4 L S (rz_mk h ι, w) = rg Z d rx_m97 5 L (.int (-1) :: S) (rz_mk h ι, w) := rz_s1 fun _ => rfl
theorem g97_5 : rg Z d rx_m97 5 L (.int y :: .int x :: S) (rz_mk h ι, w) = if x = y then rg Z d rx_m97 20 L S (rz_mk h ι, w) else rg Z d rx_m97 8 L S (rz_mk h ι, w) := rz_if2 (pc := 5) (t := 20) (off := 15) (cc := .eq) (by decide) rfl
theorem g97_8 : rg Z d rx_m97 8 [some (.ref a)] S (rz_mk h ι, w) = rg Z d rx_m97 9 [some (.ref a)] (.ref a :: S) (rz_mk h ι, w) := rz_s1 fun _ => rfl
theorem g97_9 : rg Z d rx_m97 9 L S (rz_mk h ι, w) = rg Z d rx_m97 10 L (.int 1 :: S) (rz_mk h ι, w) := rz_s1 fun _ => rfl
theorem g97_10 : rg Z d rx_m97 10 [some (.ref a)] S (rz_mk h ι, w) = rg Z d rx_m97 11 [some (.ref a)] (.ref a :: S) (rz_mk h ι, w) := rz_s1 fun _ => rfl
theorem g97_11 (c : rz_fI h a 9 2) : rg Z d rx_m97 11 L (.ref a :: S) (rz_mk h ι, w) = rg Z d rx_m97 14 L (.int (ι a 2) :: S) (rz_mk h ι, w) := rz_gI rfl (by decide) c
theorem g97_14 (c : rz_oc h a 9) : rg Z d rx_m97 14 L (v2 :: v1 :: .ref a :: []) (rz_mk h ι, w) = rz_k true (rz_f Z d 91 [.ref a, v1, v2] (rz_mk h ι, w)) (fun v σ' => rg Z d rx_m97 17 L (v.toList ++ []) σ') := rz_cv (pc := 14) (n := 2) (mi := 91) (S := v2 :: v1 :: .ref a :: []) (rest := []) rfl rfl (Nat.le_of_ble_eq_true rfl) (Nat.le_of_ble_eq_true rfl) c
theorem g97_17 : rg Z d rx_m97 17 L (.int x :: S) (rz_mk h ι, w) = if x = 0 then rg Z d rx_m97 24 L S (rz_mk h ι, w) else rg Z d rx_m97 20 L S (rz_mk h ι, w) := rz_if1 (pc := 17) (t := 24) (off := 7) (cc := .eq) (by decide) rfl
theorem g97_20 : rg Z d rx_m97 20 L S (rz_mk h ι, w) = rg Z d rx_m97 21 L (.int 1 :: S) (rz_mk h ι, w) := rz_s1 fun _ => rfl
theorem g97_21 : rg Z d rx_m97 21 L S (rz_mk h ι, w) = rg Z d rx_m97 25 L S (rz_mk h ι, w) := rz_s1 fun _ => rfl
theorem g97_24 : rg Z d rx_m97 24 L S (rz_mk h ι, w) = rg Z d rx_m97 25 L (.int 0 :: S) (rz_mk h ι, w) := rz_s1 fun _ => rfl
theorem g97_25 (c : narrow .boolean (.int x) = .int x) : rg Z d rx_m97 25 L [.int x] (rz_mk h ι, w) = some (.inl (some (.int x)), (rz_mk h ι, w)) := rz_reti rfl rfl c
theorem e97 : rz_f Z (d + 1) 97 [.ref t0] σ = rg Z d rx_m97 0 [some (.ref t0)] [] σ := rz_f_eq rfl (Nat.le_of_ble_eq_true rfl)
theorem g98_0 : rg Z d rx_m98 0 [some (.ref a)] S (rz_mk h ι, w) = rg Z d rx_m98 1 [some (.ref a)] (.ref a :: S) (rz_mk h ι, w) := rz_s1 fun _ => rfl
theorem g98_1 (c : rz_oc h a 9) : rg Z d rx_m98 1 L (.ref a :: []) (rz_mk h ι, w) = rz_k true (rz_f Z d 94 [.ref a] (rz_mk h ι, w)) (fun v σ' => rg Z d rx_m98 4 L (v.toList ++ []) σ') := rz_cv (pc := 1) (n := 0) (mi := 94) (S := .ref a :: []) (rest := []) rfl rfl (Nat.le_of_ble_eq_true rfl) (Nat.le_of_ble_eq_true rfl) c
theorem g98_4 : rg Z d rx_m98 4 L (v1 :: []) (rz_mk h ι, w) = rz_k true (rz_f Z d 93 [v1] (rz_mk h ι, w)) (fun v σ' => rg Z d rx_m98 7 L (v.toList ++ []) σ') := rz_cs (pc := 4) (n := 1) (mi := 93) (S := v1 :: []) (rest := []) rfl rfl (Nat.le_of_ble_eq_true rfl) (Nat.le_of_ble_eq_true rfl)
theorem g98_7 (c : narrow .boolean (.int x) = .int x) : rg Z d rx_m98 7 L [.int x] (rz_mk h ι, w) = some (.inl (some (.int x)), (rz_mk h ι, w)) := rz_reti rfl rfl c
theorem e98 : rz_f Z (d + 1) 98 [.ref t0] σ = rg Z d rx_m98 0 [some (.ref t0)] [] σ := rz_f_eq rfl (Nat.le_of_ble_eq_true rfl)
theorem g99_0 : rg Z d rx_m99 0 [some (.ref a), l1, l2] S (rz_mk h ι, w) = rg Z d rx_m99 1 [some (.ref a), l1, l2] (.ref a :: S) (rz_mk h ι, w) := rz_s1 fun _ => rfl
theorem g99_1 (c : rz_oc h a 9) : rg Z d rx_m99 1 L (.ref a :: []) (rz_mk h ι, w) = rz_k true (rz_f Z d 98 [.ref a] (rz_mk h ι, w)) (fun v σ' => rg Z d rx_m99 4 L (v.toList ++ []) σ') := rz_cv (pc := 1) (n := 0) (mi := 98) (S := .ref a :: []) (rest := []) rfl rfl (Nat.le_of_ble_eq_true rfl) (Nat.le_of_ble_eq_true rfl) c
theorem g99_4 : rg Z d rx_m99 4 L (.int x :: S) (rz_mk h ι, w) = if x = 0 then rg Z d rx_m99 7 L S (rz_mk h ι, w) else rg Z d rx_m99 19 L S (rz_mk h ι, w) := rz_if1 (pc := 4) (t := 19) (off := 15) (cc := .ne) (by decide) rfl
theorem g99_7 : rg Z d rx_m99 7 [some (.ref a), l1, l2] S (rz_mk h ι, w) = rg Z d rx_m99 8 [some (.ref a), l1, l2] (.ref a :: S) (rz_mk h ι, w) := rz_s1 fun _ => rfl
theorem g99_8 : rg Z d rx_m99 8 L S (rz_mk h ι, w) = rg Z d rx_m99 9 L (.int 1 :: S) (rz_mk h ι, w) := rz_s1 fun _ => rfl
theorem g99_9 : rg Z d rx_m99 9 [some (.ref a), l1, l2] S (rz_mk h ι, w) = rg Z d rx_m99 10 [some (.ref a), l1, l2] (.ref a :: S) (rz_mk h ι, w) := rz_s1 fun _ => rfl
theorem g99_10 (c : rz_fI h a 9 2) : rg Z d rx_m99 10 L (.ref a :: S) (rz_mk h ι, w) = rg Z d rx_m99 13 L (.int (ι a 2) :: S) (rz_mk h ι, w) := rz_gI rfl (by decide) c
theorem g99_13 (c : rz_oc h a 9) : rg Z d rx_m99 13 L (v2 :: v1 :: .ref a :: []) (rz_mk h ι, w) = rz_k true (rz_f Z d 91 [.ref a, v1, v2] (rz_mk h ι, w)) (fun v σ' => rg Z d rx_m99 16 L (v.toList ++ []) σ') := rz_cv (pc := 13) (n := 2) (mi := 91) (S := v2 :: v1 :: .ref a :: []) (rest := []) rfl rfl (Nat.le_of_ble_eq_true rfl) (Nat.le_of_ble_eq_true rfl) c
theorem g99_16 : rg Z d rx_m99 16 L (.int x :: S) (rz_mk h ι, w) = rg Z d rx_m99 17 L S (rz_mk h ι, w) := rz_s1 fun _ => rfl
theorem g99_17 : rg Z d rx_m99 17 L S (rz_mk h ι, w) = rg Z d rx_m99 18 L (.int (-1) :: S) (rz_mk h ι, w) := rz_s1 fun _ => rfl
theorem g99_18 : rg Z d rx_m99 18 L [.int x] (rz_mk h ι, w) = some (.inl (some (.int x)), (rz_mk h ι, w)) := rz_reti rfl rfl rfl
theorem g99_19 : rg Z d rx_m99 19 [some (.ref a), l1, l2] S (rz_mk h ι, w) = rg Z d rx_m99 20 [some (.ref a), l1, l2] (.ref a :: S) (rz_mk h ι, w) := rz_s1 fun _ => rfl
theorem g99_20 : rg Z d rx_m99 20 [some (.ref a), l1, l2] S (rz_mk h ι, w) = rg Z d rx_m99 21 [some (.ref a), l1, l2] (.ref a :: S) (rz_mk h ι, w) := rz_s1 fun _ => rfl
theorem g99_21 (c : rz_fI h a 9 2) : rg Z d rx_m99 21 L (.ref a :: S) (rz_mk h ι, w) = rg Z d rx_m99 24 L (.int (ι a 2) :: S) (rz_mk h ι, w) := rz_gI rfl (by decide) c
theorem g99_24 (c : rz_fI h a 9 3) (hz : Z.2.1 ≤ a) : rg Z d rx_m99 24 L (.int x :: .ref a :: S) (rz_mk h ι, w) = rg Z d rx_m99 27 L S (rz_mk h (rz_up ι a 3 x), w) := rz_pI rfl c hz
theorem g99_27 : rg Z d rx_m99 27 L S (rz_mk h ι, w) = rg Z d rx_m99 28 L (.int 0 :: S) (rz_mk h ι, w) := rz_s1 fun _ => rfl
theorem g99_28 : rg Z d rx_m99 28 [l0, some (.int z), l2] (.int x :: S) (rz_mk h ι, w) = rg Z d rx_m99 29 [l0, some (.int z), some (.int x)] S (rz_mk h ι, w) := rz_s1 fun _ => rfl
theorem g99_29 : rg Z d rx_m99 29 [some (.ref a), l1, l2] S (rz_mk h ι, w) = rg Z d rx_m99 30 [some (.ref a), l1, l2] (.ref a :: S) (rz_mk h ι, w) := rz_s1 fun _ => rfl
theorem g99_30 (c : rz_fI h a 9 2) : rg Z d rx_m99 30 L (.ref a :: S) (rz_mk h ι, w) = rg Z d rx_m99 33 L (.int (ι a 2) :: S) (rz_mk h ι, w) := rz_gI rfl (by decide) c
theorem g99_33 : rg Z d rx_m99 33 [some (.ref a), l1, l2] S (rz_mk h ι, w) = rg Z d rx_m99 34 [some (.ref a), l1, l2] (.ref a :: S) (rz_mk h ι, w) := rz_s1 fun _ => rfl
theorem g99_34 (c : rz_fI h a 9 1) : rg Z d rx_m99 34 L (.ref a :: S) (rz_mk h ι, w) = rg Z d rx_m99 37 L (.int (ι a 1) :: S) (rz_mk h ι, w) := rz_gI rfl (by decide) c
theorem g99_37 : rg Z d rx_m99 37 L (.int y :: .int x :: S) (rz_mk h ι, w) = if x < y then rg Z d rx_m99 40 L S (rz_mk h ι, w) else rg Z d rx_m99 97 L S (rz_mk h ι, w) := rz_if2 (pc := 37) (t := 97) (off := 60) (cc := .ge) (by decide) rfl
theorem g99_40 : rg Z d rx_m99 40 [some (.ref a), l1, l2] S (rz_mk h ι, w) = rg Z d rx_m99 41 [some (.ref a), l1, l2] (.ref a :: S) (rz_mk h ι, w) := rz_s1 fun _ => rfl
theorem g99_41 (c : rz_fR h a 9 0) : rg Z d rx_m99 41 L (.ref a :: S) (rz_mk h ι, w) = rg Z d rx_m99 44 L (rz_rv h a 0 :: S) (rz_mk h ι, w) := rz_gR rfl (by decide) c
theorem g99_44 : rg Z d rx_m99 44 [some (.ref a), l1, l2] S (rz_mk h ι, w) = rg Z d rx_m99 45 [some (.ref a), l1, l2] (.ref a :: S) (rz_mk h ι, w) := rz_s1 fun _ => rfl
theorem g99_45 (c : rz_fI h a 9 2) : rg Z d rx_m99 45 L (.ref a :: S) (rz_mk h ι, w) = rg Z d rx_m99 48 L (.int (ι a 2) :: S) (rz_mk h ι, w) := rz_gI rfl (by decide) c
theorem g99_48 (c : rz_ar h a 0) (hi : rz_ix x (rz_ln h a)) : rg Z d rx_m99 48 L (.int x :: .ref a :: S) (rz_mk h ι, w) = rg Z d rx_m99 49 L (.int (ι a x.toNatClampNeg) :: S) (rz_mk h ι, w) := rz_iald rfl c hi
theorem g99_49 : rg Z d rx_m99 49 L (v1 :: []) (rz_mk h ι, w) = rz_k true (rz_f Z d 93 [v1] (rz_mk h ι, w)) (fun v σ' => rg Z d rx_m99 52 L (v.toList ++ []) σ') := rz_cs (pc := 49) (n := 1) (mi := 93) (S := v1 :: []) (rest := []) rfl rfl (Nat.le_of_ble_eq_true rfl) (Nat.le_of_ble_eq_true rfl)
theorem g99_52 : rg Z d rx_m99 52 L (.int x :: S) (rz_mk h ι, w) = if x = 0 then rg Z d rx_m99 97 L S (rz_mk h ι, w) else rg Z d rx_m99 55 L S (rz_mk h ι, w) := rz_if1 (pc := 52) (t := 97) (off := 45) (cc := .eq) (by decide) rfl
theorem g99_55 : rg Z d rx_m99 55 [l0, l1, some (.int x)] S (rz_mk h ι, w) = rg Z d rx_m99 56 [l0, l1, some (.int x)] (.int x :: S) (rz_mk h ι, w) := rz_s1 fun _ => rfl
theorem g99_56 : rg Z d rx_m99 56 L S (rz_mk h ι, w) = rg Z d rx_m99 59 L (.int 999 :: S) (rz_mk h ι, w) := rz_s1 fun _ => rfl
theorem g99_59 : rg Z d rx_m99 59 L (.int y :: .int x :: S) (rz_mk h ι, w) = if y < x then rg Z d rx_m99 62 L S (rz_mk h ι, w) else rg Z d rx_m99 66 L S (rz_mk h ι, w) := rz_if2 (pc := 59) (t := 66) (off := 7) (cc := .le) (by decide) rfl
theorem g99_62 : rg Z d rx_m99 62 [l0, l1, some (.int x)] S (rz_mk h ι, w) = rg Z d rx_m99 63 [l0, l1, some (.int x)] (.int x :: S) (rz_mk h ι, w) := rz_s1 fun _ => rfl
theorem g99_63 : rg Z d rx_m99 63 L S (rz_mk h ι, w) = rg Z d rx_m99 83 L S (rz_mk h ι, w) := rz_s1 fun _ => rfl
theorem g99_66 : rg Z d rx_m99 66 [l0, l1, some (.int x)] S (rz_mk h ι, w) = rg Z d rx_m99 67 [l0, l1, some (.int x)] (.int x :: S) (rz_mk h ι, w) := rz_s1 fun _ => rfl
theorem g99_67 : rg Z d rx_m99 67 L S (rz_mk h ι, w) = rg Z d rx_m99 69 L (.int 10 :: S) (rz_mk h ι, w) := rz_s1 fun _ => rfl
theorem g99_69 : rg Z d rx_m99 69 L (.int y :: .int x :: S) (rz_mk h ι, w) = rg Z d rx_m99 70 L (.int (x * y) :: S) (rz_mk h ι, w) := rz_s1 fun _ => rfl
theorem g99_70 : rg Z d rx_m99 70 [some (.ref a), l1, l2] S (rz_mk h ι, w) = rg Z d rx_m99 71 [some (.ref a), l1, l2] (.ref a :: S) (rz_mk h ι, w) := rz_s1 fun _ => rfl
theorem g99_71 (c : rz_fR h a 9 0) : rg Z d rx_m99 71 L (.ref a :: S) (rz_mk h ι, w) = rg Z d rx_m99 74 L (rz_rv h a 0 :: S) (rz_mk h ι, w) := rz_gR rfl (by decide) c
theorem g99_74 : rg Z d rx_m99 74 [some (.ref a), l1, l2] S (rz_mk h ι, w) = rg Z d rx_m99 75 [some (.ref a), l1, l2] (.ref a :: S) (rz_mk h ι, w) := rz_s1 fun _ => rfl
theorem g99_75 (c : rz_fI h a 9 2) : rg Z d rx_m99 75 L (.ref a :: S) (rz_mk h ι, w) = rg Z d rx_m99 78 L (.int (ι a 2) :: S) (rz_mk h ι, w) := rz_gI rfl (by decide) c
theorem g99_78 (c : rz_ar h a 0) (hi : rz_ix x (rz_ln h a)) : rg Z d rx_m99 78 L (.int x :: .ref a :: S) (rz_mk h ι, w) = rg Z d rx_m99 79 L (.int (ι a x.toNatClampNeg) :: S) (rz_mk h ι, w) := rz_iald rfl c hi
theorem g99_79 : rg Z d rx_m99 79 L (.int y :: .int x :: S) (rz_mk h ι, w) = rg Z d rx_m99 80 L (.int (x + y) :: S) (rz_mk h ι, w) := rz_s1 fun _ => rfl
theorem g99_80 : rg Z d rx_m99 80 L S (rz_mk h ι, w) = rg Z d rx_m99 82 L (.int 48 :: S) (rz_mk h ι, w) := rz_s1 fun _ => rfl
theorem g99_82 : rg Z d rx_m99 82 L (.int y :: .int x :: S) (rz_mk h ι, w) = rg Z d rx_m99 83 L (.int (x - y) :: S) (rz_mk h ι, w) := rz_s1 fun _ => rfl
theorem g99_83 : rg Z d rx_m99 83 [l0, some (.int z), l2] (.int x :: S) (rz_mk h ι, w) = rg Z d rx_m99 84 [l0, some (.int z), some (.int x)] S (rz_mk h ι, w) := rz_s1 fun _ => rfl
theorem g99_84 : rg Z d rx_m99 84 [some (.ref a), l1, l2] S (rz_mk h ι, w) = rg Z d rx_m99 85 [some (.ref a), l1, l2] (.ref a :: S) (rz_mk h ι, w) := rz_s1 fun _ => rfl
theorem g99_85 : rg Z d rx_m99 85 L (.ref a :: S) (rz_mk h ι, w) = rg Z d rx_m99 86 L (.ref a :: .ref a :: S) (rz_mk h ι, w) := rz_s1 fun _ => rfl
theorem g99_86 (c : rz_fI h a 9 2) : rg Z d rx_m99 86 L (.ref a :: S) (rz_mk h ι, w) = rg Z d rx_m99 89 L (.int (ι a 2) :: S) (rz_mk h ι, w) := rz_gI rfl (by decide) c
theorem g99_89 : rg Z d rx_m99 89 L S (rz_mk h ι, w) = rg Z d rx_m99 90 L (.int 1 :: S) (rz_mk h ι, w) := rz_s1 fun _ => rfl
theorem g99_90 : rg Z d rx_m99 90 L (.int y :: .int x :: S) (rz_mk h ι, w) = rg Z d rx_m99 91 L (.int (x + y) :: S) (rz_mk h ι, w) := rz_s1 fun _ => rfl
theorem g99_91 (c : rz_fI h a 9 2) (hz : Z.2.1 ≤ a) : rg Z d rx_m99 91 L (.int x :: .ref a :: S) (rz_mk h ι, w) = rg Z d rx_m99 94 L S (rz_mk h (rz_up ι a 2 x), w) := rz_pI rfl c hz
theorem g99_94 : rg Z d rx_m99 94 L S (rz_mk h ι, w) = rg Z d rx_m99 29 L S (rz_mk h ι, w) := rz_s1 fun _ => rfl
theorem g99_97 : rg Z d rx_m99 97 [l0, l1, some (.int x)] S (rz_mk h ι, w) = rg Z d rx_m99 98 [l0, l1, some (.int x)] (.int x :: S) (rz_mk h ι, w) := rz_s1 fun _ => rfl
theorem g99_98 : rg Z d rx_m99 98 [l0, some (.int x), l2] S (rz_mk h ι, w) = rg Z d rx_m99 99 [l0, some (.int x), l2] (.int x :: S) (rz_mk h ι, w) := rz_s1 fun _ => rfl
theorem g99_99 : rg Z d rx_m99 99 L (.int y :: .int x :: S) (rz_mk h ι, w) = if y < x then rg Z d rx_m99 102 L S (rz_mk h ι, w) else rg Z d rx_m99 110 L S (rz_mk h ι, w) := rz_if2 (pc := 99) (t := 110) (off := 11) (cc := .le) (by decide) rfl
theorem g99_102 : rg Z d rx_m99 102 [some (.ref a), l1, l2] S (rz_mk h ι, w) = rg Z d rx_m99 103 [some (.ref a), l1, l2] (.ref a :: S) (rz_mk h ι, w) := rz_s1 fun _ => rfl
theorem g99_103 : rg Z d rx_m99 103 L S (rz_mk h ι, w) = rg Z d rx_m99 104 L (.int 2 :: S) (rz_mk h ι, w) := rz_s1 fun _ => rfl
theorem g99_104 (c : rz_oc h a 9) : rg Z d rx_m99 104 L (v1 :: .ref a :: []) (rz_mk h ι, w) = rz_k true (rz_f Z d 92 [.ref a, v1] (rz_mk h ι, w)) (fun v σ' => rg Z d rx_m99 107 L (v.toList ++ []) σ') := rz_cv (pc := 104) (n := 1) (mi := 92) (S := v1 :: .ref a :: []) (rest := []) rfl rfl (Nat.le_of_ble_eq_true rfl) (Nat.le_of_ble_eq_true rfl) c
theorem g99_107 : rg Z d rx_m99 107 L (.int x :: S) (rz_mk h ι, w) = rg Z d rx_m99 108 L S (rz_mk h ι, w) := rz_s1 fun _ => rfl
theorem g99_108 : rg Z d rx_m99 108 L S (rz_mk h ι, w) = rg Z d rx_m99 109 L (.int (-1) :: S) (rz_mk h ι, w) := rz_s1 fun _ => rfl
theorem g99_109 : rg Z d rx_m99 109 L [.int x] (rz_mk h ι, w) = some (.inl (some (.int x)), (rz_mk h ι, w)) := rz_reti rfl rfl rfl
theorem g99_110 : rg Z d rx_m99 110 [l0, l1, some (.int x)] S (rz_mk h ι, w) = rg Z d rx_m99 111 [l0, l1, some (.int x)] (.int x :: S) (rz_mk h ι, w) := rz_s1 fun _ => rfl
theorem g99_111 : rg Z d rx_m99 111 L [.int x] (rz_mk h ι, w) = some (.inl (some (.int x)), (rz_mk h ι, w)) := rz_reti rfl rfl rfl
theorem e99 : rz_f Z (d + 1) 99 [.ref t0, .int s1] σ = rg Z d rx_m99 0 [some (.ref t0), some (.int s1), none] [] σ := rz_f_eq rfl (Nat.le_of_ble_eq_true rfl)
theorem g100_0 : rg Z d rx_m100 0 [some (.ref a)] S (rz_mk h ι, w) = rg Z d rx_m100 1 [some (.ref a)] (.ref a :: S) (rz_mk h ι, w) := rz_s1 fun _ => rfl
theorem g100_1 (c : rz_oc h a 9) : rg Z d rx_m100 1 L (.ref a :: []) (rz_mk h ι, w) = rz_k true (rz_f Z d 94 [.ref a] (rz_mk h ι, w)) (fun v σ' => rg Z d rx_m100 4 L (v.toList ++ []) σ') := rz_cv (pc := 1) (n := 0) (mi := 94) (S := .ref a :: []) (rest := []) rfl rfl (Nat.le_of_ble_eq_true rfl) (Nat.le_of_ble_eq_true rfl) c
theorem g100_4 : rg Z d rx_m100 4 L (.int x :: S) (rz_mk h ι, w) = rg Z d rx_m100 5 L S (rz_mk h ι, w) := rz_s1 fun _ => rfl
theorem g100_5 : rg Z d rx_m100 5 [some (.ref a)] S (rz_mk h ι, w) = rg Z d rx_m100 6 [some (.ref a)] (.ref a :: S) (rz_mk h ι, w) := rz_s1 fun _ => rfl
theorem g100_6 : rg Z d rx_m100 6 [some (.ref a)] S (rz_mk h ι, w) = rg Z d rx_m100 7 [some (.ref a)] (.ref a :: S) (rz_mk h ι, w) := rz_s1 fun _ => rfl
theorem g100_7 (c : rz_fI h a 9 2) : rg Z d rx_m100 7 L (.ref a :: S) (rz_mk h ι, w) = rg Z d rx_m100 10 L (.int (ι a 2) :: S) (rz_mk h ι, w) := rz_gI rfl (by decide) c
theorem g100_10 (c : rz_fI h a 9 3) (hz : Z.2.1 ≤ a) : rg Z d rx_m100 10 L (.int x :: .ref a :: S) (rz_mk h ι, w) = rg Z d rx_m100 13 L S (rz_mk h (rz_up ι a 3 x), w) := rz_pI rfl c hz
theorem g100_13 : rg Z d rx_m100 13 [some (.ref a)] S (rz_mk h ι, w) = rg Z d rx_m100 14 [some (.ref a)] (.ref a :: S) (rz_mk h ι, w) := rz_s1 fun _ => rfl
theorem g100_14 (c : rz_fI h a 9 2) : rg Z d rx_m100 14 L (.ref a :: S) (rz_mk h ι, w) = rg Z d rx_m100 17 L (.int (ι a 2) :: S) (rz_mk h ι, w) := rz_gI rfl (by decide) c
theorem g100_17 : rg Z d rx_m100 17 [some (.ref a)] S (rz_mk h ι, w) = rg Z d rx_m100 18 [some (.ref a)] (.ref a :: S) (rz_mk h ι, w) := rz_s1 fun _ => rfl
theorem g100_18 (c : rz_fI h a 9 1) : rg Z d rx_m100 18 L (.ref a :: S) (rz_mk h ι, w) = rg Z d rx_m100 21 L (.int (ι a 1) :: S) (rz_mk h ι, w) := rz_gI rfl (by decide) c
theorem g100_21 : rg Z d rx_m100 21 L (.int y :: .int x :: S) (rz_mk h ι, w) = if x < y then rg Z d rx_m100 24 L S (rz_mk h ι, w) else rg Z d rx_m100 65 L S (rz_mk h ι, w) := rz_if2 (pc := 21) (t := 65) (off := 44) (cc := .ge) (by decide) rfl
theorem g100_24 : rg Z d rx_m100 24 [some (.ref a)] S (rz_mk h ι, w) = rg Z d rx_m100 25 [some (.ref a)] (.ref a :: S) (rz_mk h ι, w) := rz_s1 fun _ => rfl
theorem g100_25 (c : rz_fR h a 9 0) : rg Z d rx_m100 25 L (.ref a :: S) (rz_mk h ι, w) = rg Z d rx_m100 28 L (rz_rv h a 0 :: S) (rz_mk h ι, w) := rz_gR rfl (by decide) c
theorem g100_28 : rg Z d rx_m100 28 [some (.ref a)] S (rz_mk h ι, w) = rg Z d rx_m100 29 [some (.ref a)] (.ref a :: S) (rz_mk h ι, w) := rz_s1 fun _ => rfl
theorem g100_29 (c : rz_fI h a 9 2) : rg Z d rx_m100 29 L (.ref a :: S) (rz_mk h ι, w) = rg Z d rx_m100 32 L (.int (ι a 2) :: S) (rz_mk h ι, w) := rz_gI rfl (by decide) c
theorem g100_32 (c : rz_ar h a 0) (hi : rz_ix x (rz_ln h a)) : rg Z d rx_m100 32 L (.int x :: .ref a :: S) (rz_mk h ι, w) = rg Z d rx_m100 33 L (.int (ι a x.toNatClampNeg) :: S) (rz_mk h ι, w) := rz_iald rfl c hi
theorem g100_33 : rg Z d rx_m100 33 L S (rz_mk h ι, w) = rg Z d rx_m100 35 L (.int 97 :: S) (rz_mk h ι, w) := rz_s1 fun _ => rfl
theorem g100_35 : rg Z d rx_m100 35 L (.int y :: .int x :: S) (rz_mk h ι, w) = if x < y then rg Z d rx_m100 65 L S (rz_mk h ι, w) else rg Z d rx_m100 38 L S (rz_mk h ι, w) := rz_if2 (pc := 35) (t := 65) (off := 30) (cc := .lt) (by decide) rfl
theorem g100_38 : rg Z d rx_m100 38 [some (.ref a)] S (rz_mk h ι, w) = rg Z d rx_m100 39 [some (.ref a)] (.ref a :: S) (rz_mk h ι, w) := rz_s1 fun _ => rfl
theorem g100_39 (c : rz_fR h a 9 0) : rg Z d rx_m100 39 L (.ref a :: S) (rz_mk h ι, w) = rg Z d rx_m100 42 L (rz_rv h a 0 :: S) (rz_mk h ι, w) := rz_gR rfl (by decide) c
theorem g100_42 : rg Z d rx_m100 42 [some (.ref a)] S (rz_mk h ι, w) = rg Z d rx_m100 43 [some (.ref a)] (.ref a :: S) (rz_mk h ι, w) := rz_s1 fun _ => rfl
theorem g100_43 (c : rz_fI h a 9 2) : rg Z d rx_m100 43 L (.ref a :: S) (rz_mk h ι, w) = rg Z d rx_m100 46 L (.int (ι a 2) :: S) (rz_mk h ι, w) := rz_gI rfl (by decide) c
theorem g100_46 (c : rz_ar h a 0) (hi : rz_ix x (rz_ln h a)) : rg Z d rx_m100 46 L (.int x :: .ref a :: S) (rz_mk h ι, w) = rg Z d rx_m100 47 L (.int (ι a x.toNatClampNeg) :: S) (rz_mk h ι, w) := rz_iald rfl c hi
theorem g100_47 : rg Z d rx_m100 47 L S (rz_mk h ι, w) = rg Z d rx_m100 49 L (.int 122 :: S) (rz_mk h ι, w) := rz_s1 fun _ => rfl
theorem g100_49 : rg Z d rx_m100 49 L (.int y :: .int x :: S) (rz_mk h ι, w) = if y < x then rg Z d rx_m100 65 L S (rz_mk h ι, w) else rg Z d rx_m100 52 L S (rz_mk h ι, w) := rz_if2 (pc := 49) (t := 65) (off := 16) (cc := .gt) (by decide) rfl
theorem g100_52 : rg Z d rx_m100 52 [some (.ref a)] S (rz_mk h ι, w) = rg Z d rx_m100 53 [some (.ref a)] (.ref a :: S) (rz_mk h ι, w) := rz_s1 fun _ => rfl
theorem g100_53 : rg Z d rx_m100 53 L (.ref a :: S) (rz_mk h ι, w) = rg Z d rx_m100 54 L (.ref a :: .ref a :: S) (rz_mk h ι, w) := rz_s1 fun _ => rfl
theorem g100_54 (c : rz_fI h a 9 2) : rg Z d rx_m100 54 L (.ref a :: S) (rz_mk h ι, w) = rg Z d rx_m100 57 L (.int (ι a 2) :: S) (rz_mk h ι, w) := rz_gI rfl (by decide) c
theorem g100_57 : rg Z d rx_m100 57 L S (rz_mk h ι, w) = rg Z d rx_m100 58 L (.int 1 :: S) (rz_mk h ι, w) := rz_s1 fun _ => rfl
theorem g100_58 : rg Z d rx_m100 58 L (.int y :: .int x :: S) (rz_mk h ι, w) = rg Z d rx_m100 59 L (.int (x + y) :: S) (rz_mk h ι, w) := rz_s1 fun _ => rfl
theorem g100_59 (c : rz_fI h a 9 2) (hz : Z.2.1 ≤ a) : rg Z d rx_m100 59 L (.int x :: .ref a :: S) (rz_mk h ι, w) = rg Z d rx_m100 62 L S (rz_mk h (rz_up ι a 2 x), w) := rz_pI rfl c hz
theorem g100_62 : rg Z d rx_m100 62 L S (rz_mk h ι, w) = rg Z d rx_m100 13 L S (rz_mk h ι, w) := rz_s1 fun _ => rfl
theorem g100_65 : rg Z d rx_m100 65 L [] (rz_mk h ι, w) = some (.inl none, (rz_mk h ι, w)) := rz_r1 fun _ => rfl
theorem e100 : rz_f Z (d + 1) 100 [.ref t0] σ = rg Z d rx_m100 0 [some (.ref t0)] [] σ := rz_f_eq rfl (Nat.le_of_ble_eq_true rfl)
theorem g101_0 : rg Z d rx_m101 0 [some (.ref a), l1, l2] S (rz_mk h ι, w) = rg Z d rx_m101 1 [some (.ref a), l1, l2] (.ref a :: S) (rz_mk h ι, w) := rz_s1 fun _ => rfl
theorem g101_1 (c : rz_fI h a 9 2) : rg Z d rx_m101 1 L (.ref a :: S) (rz_mk h ι, w) = rg Z d rx_m101 4 L (.int (ι a 2) :: S) (rz_mk h ι, w) := rz_gI rfl (by decide) c
theorem g101_4 : rg Z d rx_m101 4 [some (.ref a), l1, l2] S (rz_mk h ι, w) = rg Z d rx_m101 5 [some (.ref a), l1, l2] (.ref a :: S) (rz_mk h ι, w) := rz_s1 fun _ => rfl
theorem g101_5 (c : rz_fI h a 9 3) : rg Z d rx_m101 5 L (.ref a :: S) (rz_mk h ι, w) = rg Z d rx_m101 8 L (.int (ι a 3) :: S) (rz_mk h ι, w) := rz_gI rfl (by decide) c
theorem g101_8 : rg Z d rx_m101 8 L (.int y :: .int x :: S) (rz_mk h ι, w) = rg Z d rx_m101 9 L (.int (x - y) :: S) (rz_mk h ι, w) := rz_s1 fun _ => rfl
theorem g101_9 : rg Z d rx_m101 9 [l0, some (.ref a), l2] S (rz_mk h ι, w) = rg Z d rx_m101 10 [l0, some (.ref a), l2] (.ref a :: S) (rz_mk h ι, w) := rz_s1 fun _ => rfl
theorem g101_10 (c : rz_ar h a 9) : rg Z d rx_m101 10 L (.ref a :: [.int s0]) (rz_mk h ι, w) = rz_k true (rz_f Z d 292 [.ref a] (rz_mk h ι, w)) (fun v σ' => rg Z d rx_m101 13 L (v.toList ++ [.int s0]) σ') := rz_cvs (pc := 10) (n := 0) (mi := 292) (S := .ref a :: [.int s0]) (rest := [.int s0]) rfl rfl (Nat.le_of_ble_eq_true rfl) (Nat.le_of_ble_eq_true rfl) c
theorem g101_13 : rg Z d rx_m101 13 L (.int y :: .int x :: S) (rz_mk h ι, w) = if x = y then rg Z d rx_m101 16 L S (rz_mk h ι, w) else rg Z d rx_m101 34 L S (rz_mk h ι, w) := rz_if2 (pc := 13) (t := 34) (off := 21) (cc := .ne) (by decide) rfl
theorem g101_16 : rg Z d rx_m101 16 [some (.ref a), l1, l2] S (rz_mk h ι, w) = rg Z d rx_m101 17 [some (.ref a), l1, l2] (.ref a :: S) (rz_mk h ι, w) := rz_s1 fun _ => rfl
theorem g101_17 (c : rz_fI h a 9 3) : rg Z d rx_m101 17 L (.ref a :: S) (rz_mk h ι, w) = rg Z d rx_m101 20 L (.int (ι a 3) :: S) (rz_mk h ι, w) := rz_gI rfl (by decide) c
theorem g101_20 : rg Z d rx_m101 20 L (.int x :: S) (rz_mk h ι, w) = if x < 0 then rg Z d rx_m101 34 L S (rz_mk h ι, w) else rg Z d rx_m101 23 L S (rz_mk h ι, w) := rz_if1 (pc := 20) (t := 34) (off := 14) (cc := .lt) (by decide) rfl
theorem g101_23 : rg Z d rx_m101 23 [some (.ref a), l1, l2] S (rz_mk h ι, w) = rg Z d rx_m101 24 [some (.ref a), l1, l2] (.ref a :: S) (rz_mk h ι, w) := rz_s1 fun _ => rfl
theorem g101_24 (c : rz_fI h a 9 2) : rg Z d rx_m101 24 L (.ref a :: S) (rz_mk h ι, w) = rg Z d rx_m101 27 L (.int (ι a 2) :: S) (rz_mk h ι, w) := rz_gI rfl (by decide) c
theorem g101_27 : rg Z d rx_m101 27 [some (.ref a), l1, l2] S (rz_mk h ι, w) = rg Z d rx_m101 28 [some (.ref a), l1, l2] (.ref a :: S) (rz_mk h ι, w) := rz_s1 fun _ => rfl
theorem g101_28 (c : rz_fI h a 9 1) : rg Z d rx_m101 28 L (.ref a :: S) (rz_mk h ι, w) = rg Z d rx_m101 31 L (.int (ι a 1) :: S) (rz_mk h ι, w) := rz_gI rfl (by decide) c
theorem g101_31 : rg Z d rx_m101 31 L (.int y :: .int x :: S) (rz_mk h ι, w) = if y < x then rg Z d rx_m101 34 L S (rz_mk h ι, w) else rg Z d rx_m101 36 L S (rz_mk h ι, w) := rz_if2 (pc := 31) (t := 36) (off := 5) (cc := .le) (by decide) rfl
theorem g101_34 : rg Z d rx_m101 34 L S (rz_mk h ι, w) = rg Z d rx_m101 35 L (.int 0 :: S) (rz_mk h ι, w) := rz_s1 fun _ => rfl
theorem g101_35 (c : narrow .boolean (.int x) = .int x) : rg Z d rx_m101 35 L [.int x] (rz_mk h ι, w) = some (.inl (some (.int x)), (rz_mk h ι, w)) := rz_reti rfl rfl c
theorem g101_36 : rg Z d rx_m101 36 L S (rz_mk h ι, w) = rg Z d rx_m101 37 L (.int 0 :: S) (rz_mk h ι, w) := rz_s1 fun _ => rfl
theorem g101_37 : rg Z d rx_m101 37 [l0, some (.ref b), l2] (.int x :: S) (rz_mk h ι, w) = rg Z d rx_m101 38 [l0, some (.ref b), some (.int x)] S (rz_mk h ι, w) := rz_s1 fun _ => rfl
theorem g101_38 : rg Z d rx_m101 38 [l0, l1, some (.int x)] S (rz_mk h ι, w) = rg Z d rx_m101 39 [l0, l1, some (.int x)] (.int x :: S) (rz_mk h ι, w) := rz_s1 fun _ => rfl
theorem g101_39 : rg Z d rx_m101 39 [l0, some (.ref a), l2] S (rz_mk h ι, w) = rg Z d rx_m101 40 [l0, some (.ref a), l2] (.ref a :: S) (rz_mk h ι, w) := rz_s1 fun _ => rfl
theorem g101_40 (c : rz_ar h a 9) : rg Z d rx_m101 40 L (.ref a :: [.int s0]) (rz_mk h ι, w) = rz_k true (rz_f Z d 292 [.ref a] (rz_mk h ι, w)) (fun v σ' => rg Z d rx_m101 43 L (v.toList ++ [.int s0]) σ') := rz_cvs (pc := 40) (n := 0) (mi := 292) (S := .ref a :: [.int s0]) (rest := [.int s0]) rfl rfl (Nat.le_of_ble_eq_true rfl) (Nat.le_of_ble_eq_true rfl) c
theorem g101_43 : rg Z d rx_m101 43 L (.int y :: .int x :: S) (rz_mk h ι, w) = if x < y then rg Z d rx_m101 46 L S (rz_mk h ι, w) else rg Z d rx_m101 73 L S (rz_mk h ι, w) := rz_if2 (pc := 43) (t := 73) (off := 30) (cc := .ge) (by decide) rfl
theorem g101_46 : rg Z d rx_m101 46 [some (.ref a), l1, l2] S (rz_mk h ι, w) = rg Z d rx_m101 47 [some (.ref a), l1, l2] (.ref a :: S) (rz_mk h ι, w) := rz_s1 fun _ => rfl
theorem g101_47 (c : rz_fR h a 9 0) : rg Z d rx_m101 47 L (.ref a :: S) (rz_mk h ι, w) = rg Z d rx_m101 50 L (rz_rv h a 0 :: S) (rz_mk h ι, w) := rz_gR rfl (by decide) c
theorem g101_50 : rg Z d rx_m101 50 [some (.ref a), l1, l2] S (rz_mk h ι, w) = rg Z d rx_m101 51 [some (.ref a), l1, l2] (.ref a :: S) (rz_mk h ι, w) := rz_s1 fun _ => rfl
theorem g101_51 (c : rz_fI h a 9 3) : rg Z d rx_m101 51 L (.ref a :: S) (rz_mk h ι, w) = rg Z d rx_m101 54 L (.int (ι a 3) :: S) (rz_mk h ι, w) := rz_gI rfl (by decide) c
theorem g101_54 : rg Z d rx_m101 54 [l0, l1, some (.int x)] S (rz_mk h ι, w) = rg Z d rx_m101 55 [l0, l1, some (.int x)] (.int x :: S) (rz_mk h ι, w) := rz_s1 fun _ => rfl
theorem g101_55 : rg Z d rx_m101 55 L (.int y :: .int x :: S) (rz_mk h ι, w) = rg Z d rx_m101 56 L (.int (x + y) :: S) (rz_mk h ι, w) := rz_s1 fun _ => rfl
theorem g101_56 (c : rz_ar h a 0) (hi : rz_ix x (rz_ln h a)) : rg Z d rx_m101 56 L (.int x :: .ref a :: S) (rz_mk h ι, w) = rg Z d rx_m101 57 L (.int (ι a x.toNatClampNeg) :: S) (rz_mk h ι, w) := rz_iald rfl c hi
theorem g101_57 : rg Z d rx_m101 57 [l0, some (.ref a), l2] S (rz_mk h ι, w) = rg Z d rx_m101 58 [l0, some (.ref a), l2] (.ref a :: S) (rz_mk h ι, w) := rz_s1 fun _ => rfl
theorem g101_58 : rg Z d rx_m101 58 [l0, l1, some (.int x)] S (rz_mk h ι, w) = rg Z d rx_m101 59 [l0, l1, some (.int x)] (.int x :: S) (rz_mk h ι, w) := rz_s1 fun _ => rfl
theorem g101_59 (c : rz_ar h a 9) : rg Z d rx_m101 59 L (v1 :: .ref a :: [.int s0]) (rz_mk h ι, w) = rz_k true (rz_f Z d 293 [.ref a, v1] (rz_mk h ι, w)) (fun v σ' => rg Z d rx_m101 62 L (v.toList ++ [.int s0]) σ') := rz_cvs (pc := 59) (n := 1) (mi := 293) (S := v1 :: .ref a :: [.int s0]) (rest := [.int s0]) rfl rfl (Nat.le_of_ble_eq_true rfl) (Nat.le_of_ble_eq_true rfl) c
theorem g101_62 : rg Z d rx_m101 62 L (.int y :: .int x :: S) (rz_mk h ι, w) = if x = y then rg Z d rx_m101 67 L S (rz_mk h ι, w) else rg Z d rx_m101 65 L S (rz_mk h ι, w) := rz_if2 (pc := 62) (t := 67) (off := 5) (cc := .eq) (by decide) rfl
theorem g101_65 : rg Z d rx_m101 65 L S (rz_mk h ι, w) = rg Z d rx_m101 66 L (.int 0 :: S) (rz_mk h ι, w) := rz_s1 fun _ => rfl
theorem g101_66 (c : narrow .boolean (.int x) = .int x) : rg Z d rx_m101 66 L [.int x] (rz_mk h ι, w) = some (.inl (some (.int x)), (rz_mk h ι, w)) := rz_reti rfl rfl c
theorem g101_67 : rg Z d rx_m101 67 [l0, some (.ref b), some (.int x)] S (rz_mk h ι, w) = rg Z d rx_m101 70 [l0, some (.ref b), some (.int (x + 1))] S (rz_mk h ι, w) := rz_s1 fun _ => rfl
theorem g101_70 : rg Z d rx_m101 70 L S (rz_mk h ι, w) = rg Z d rx_m101 38 L S (rz_mk h ι, w) := rz_s1 fun _ => rfl
theorem g101_73 : rg Z d rx_m101 73 L S (rz_mk h ι, w) = rg Z d rx_m101 74 L (.int 1 :: S) (rz_mk h ι, w) := rz_s1 fun _ => rfl
theorem g101_74 (c : narrow .boolean (.int x) = .int x) : rg Z d rx_m101 74 L [.int x] (rz_mk h ι, w) = some (.inl (some (.int x)), (rz_mk h ι, w)) := rz_reti rfl rfl c
theorem e101 : rz_f Z (d + 1) 101 [.ref t0, .ref t1] σ = rg Z d rx_m101 0 [some (.ref t0), some (.ref t1), none] [] σ := rz_f_eq rfl (Nat.le_of_ble_eq_true rfl)
theorem g102_0 : rg Z d rx_m102 0 [some (.ref a), l1] S (rz_mk h ι, w) = rg Z d rx_m102 1 [some (.ref a), l1] (.ref a :: S) (rz_mk h ι, w) := rz_s1 fun _ => rfl
theorem g102_1 : rg Z d rx_m102 1 L (.ref a :: []) (rz_mk h ι, w) = rg Z d rx_m102 4 L [] (rz_mk h ι, w) := rz_oi rfl (Nat.le_of_ble_eq_true rfl)
theorem g102_4 : rg Z d rx_m102 4 [some (.ref a), l1] S (rz_mk h ι, w) = rg Z d rx_m102 5 [some (.ref a), l1] (.ref a :: S) (rz_mk h ι, w) := rz_s1 fun _ => rfl
theorem g102_5 : rg Z d rx_m102 5 L S (rz_mk h ι, w) = rg Z d rx_m102 8 L (.int 148 :: S) (rz_mk h ι, w) := rz_s1 fun _ => rfl
theorem g102_8 : rg Z d rx_m102 8 L (.int 148 :: S) (rz_mk h ι, w) = rg Z d rx_m102 10 L (.ref w.1 :: S) (rz_mk (rx_up h w.1 (.inl (0, 148, fun _ => .int 0))) (rz_z ι w.1), w.1 + 1, w.2 + 148) := rz_nwa rfl (by decide) (by decide)
theorem g102_10 (c : rz_fR h a 10 1) (hv : rz_isr v = true) (hz : Z.2.1 ≤ a) : rg Z d rx_m102 10 L (v :: .ref a :: S) (rz_mk h ι, w) = rg Z d rx_m102 13 L S (rz_mk (rz_hs h a 1 v) ι, w) := rz_pR rfl c hv hz
theorem g102_13 : rg Z d rx_m102 13 [some (.ref a), l1] S (rz_mk h ι, w) = rg Z d rx_m102 14 [some (.ref a), l1] (.ref a :: S) (rz_mk h ι, w) := rz_s1 fun _ => rfl
theorem g102_14 : rg Z d rx_m102 14 L S (rz_mk h ι, w) = rg Z d rx_m102 16 L (.int 6 :: S) (rz_mk h ι, w) := rz_s1 fun _ => rfl
theorem g102_16 : rg Z d rx_m102 16 L (.int 6 :: S) (rz_mk h ι, w) = rg Z d rx_m102 18 L (.ref w.1 :: S) (rz_mk (rx_up h w.1 (.inl (0, 6, fun _ => .int 0))) (rz_z ι w.1), w.1 + 1, w.2 + 6) := rz_nwa rfl (by decide) (by decide)
theorem g102_18 (c : rz_fR h a 10 2) (hv : rz_isr v = true) (hz : Z.2.1 ≤ a) : rg Z d rx_m102 18 L (v :: .ref a :: S) (rz_mk h ι, w) = rg Z d rx_m102 21 L S (rz_mk (rz_hs h a 2 v) ι, w) := rz_pR rfl c hv hz
theorem g102_21 : rg Z d rx_m102 21 [some (.ref a), l1] S (rz_mk h ι, w) = rg Z d rx_m102 22 [some (.ref a), l1] (.ref a :: S) (rz_mk h ι, w) := rz_s1 fun _ => rfl
theorem g102_22 : rg Z d rx_m102 22 L S (rz_mk h ι, w) = rg Z d rx_m102 24 L (.int 6 :: S) (rz_mk h ι, w) := rz_s1 fun _ => rfl
theorem g102_24 : rg Z d rx_m102 24 L (.int 6 :: S) (rz_mk h ι, w) = rg Z d rx_m102 26 L (.ref w.1 :: S) (rz_mk (rx_up h w.1 (.inl (0, 6, fun _ => .int 0))) (rz_z ι w.1), w.1 + 1, w.2 + 6) := rz_nwa rfl (by decide) (by decide)
theorem g102_26 (c : rz_fR h a 10 3) (hv : rz_isr v = true) (hz : Z.2.1 ≤ a) : rg Z d rx_m102 26 L (v :: .ref a :: S) (rz_mk h ι, w) = rg Z d rx_m102 29 L S (rz_mk (rz_hs h a 3 v) ι, w) := rz_pR rfl c hv hz
theorem g102_29 : rg Z d rx_m102 29 [some (.ref a), l1] S (rz_mk h ι, w) = rg Z d rx_m102 30 [some (.ref a), l1] (.ref a :: S) (rz_mk h ι, w) := rz_s1 fun _ => rfl
theorem g102_30 : rg Z d rx_m102 30 L S (rz_mk h ι, w) = rg Z d rx_m102 31 L (.int 0 :: S) (rz_mk h ι, w) := rz_s1 fun _ => rfl
theorem g102_31 (c : rz_fI h a 10 4) (hz : Z.2.1 ≤ a) : rg Z d rx_m102 31 L (.int x :: .ref a :: S) (rz_mk h ι, w) = rg Z d rx_m102 34 L S (rz_mk h (rz_up ι a 4 x), w) := rz_pI rfl c hz
theorem g102_34 : rg Z d rx_m102 34 [some (.ref a), l1] S (rz_mk h ι, w) = rg Z d rx_m102 35 [some (.ref a), l1] (.ref a :: S) (rz_mk h ι, w) := rz_s1 fun _ => rfl
theorem g102_35 : rg Z d rx_m102 35 L S (rz_mk h ι, w) = rg Z d rx_m102 36 L (.int 0 :: S) (rz_mk h ι, w) := rz_s1 fun _ => rfl
theorem g102_36 (c : rz_fI h a 10 5) (hz : Z.2.1 ≤ a) : rg Z d rx_m102 36 L (.int x :: .ref a :: S) (rz_mk h ι, w) = rg Z d rx_m102 39 L S (rz_mk h (rz_up ι a 5 x), w) := rz_pI rfl c hz
theorem g102_39 : rg Z d rx_m102 39 [some (.ref a), l1] S (rz_mk h ι, w) = rg Z d rx_m102 40 [some (.ref a), l1] (.ref a :: S) (rz_mk h ι, w) := rz_s1 fun _ => rfl
theorem g102_40 : rg Z d rx_m102 40 L S (rz_mk h ι, w) = rg Z d rx_m102 41 L (.int 0 :: S) (rz_mk h ι, w) := rz_s1 fun _ => rfl
theorem g102_41 (c : rz_fI h a 10 6) (hz : Z.2.1 ≤ a) : rg Z d rx_m102 41 L (.int x :: .ref a :: S) (rz_mk h ι, w) = rg Z d rx_m102 44 L S (rz_mk h (rz_up ι a 6 x), w) := rz_pI rfl c hz
theorem g102_44 : rg Z d rx_m102 44 [some (.ref a), l1] S (rz_mk h ι, w) = rg Z d rx_m102 45 [some (.ref a), l1] (.ref a :: S) (rz_mk h ι, w) := rz_s1 fun _ => rfl
theorem g102_45 : rg Z d rx_m102 45 L S (rz_mk h ι, w) = rg Z d rx_m102 46 L (.int 0 :: S) (rz_mk h ι, w) := rz_s1 fun _ => rfl
theorem g102_46 (c : rz_fI h a 10 7) (hz : Z.2.1 ≤ a) : rg Z d rx_m102 46 L (.int x :: .ref a :: S) (rz_mk h ι, w) = rg Z d rx_m102 49 L S (rz_mk h (rz_up ι a 7 x), w) := rz_pI rfl c hz
theorem g102_49 : rg Z d rx_m102 49 [some (.ref a), l1] S (rz_mk h ι, w) = rg Z d rx_m102 50 [some (.ref a), l1] (.ref a :: S) (rz_mk h ι, w) := rz_s1 fun _ => rfl
theorem g102_50 : rg Z d rx_m102 50 L S (rz_mk h ι, w) = rg Z d rx_m102 51 L (.int 0 :: S) (rz_mk h ι, w) := rz_s1 fun _ => rfl
theorem g102_51 (c : rz_fI h a 10 8) (hz : Z.2.1 ≤ a) : rg Z d rx_m102 51 L (.int x :: .ref a :: S) (rz_mk h ι, w) = rg Z d rx_m102 54 L S (rz_mk h (rz_up ι a 8 x), w) := rz_pI rfl c hz
theorem g102_54 : rg Z d rx_m102 54 [some (.ref a), l1] S (rz_mk h ι, w) = rg Z d rx_m102 55 [some (.ref a), l1] (.ref a :: S) (rz_mk h ι, w) := rz_s1 fun _ => rfl
theorem g102_55 : rg Z d rx_m102 55 [l0, some (.ref a)] S (rz_mk h ι, w) = rg Z d rx_m102 56 [l0, some (.ref a)] (.ref a :: S) (rz_mk h ι, w) := rz_s1 fun _ => rfl
theorem g102_56 (c : rz_fR h a 10 0) (hv : rz_isr v = true) (hz : Z.2.1 ≤ a) : rg Z d rx_m102 56 L (v :: .ref a :: S) (rz_mk h ι, w) = rg Z d rx_m102 59 L S (rz_mk (rz_hs h a 0 v) ι, w) := rz_pR rfl c hv hz
theorem g102_59 : rg Z d rx_m102 59 L [] (rz_mk h ι, w) = some (.inl none, (rz_mk h ι, w)) := rz_r1 fun _ => rfl
theorem e102 : rz_f Z (d + 1) 102 [.ref t0, .ref t1] σ = rg Z d rx_m102 0 [some (.ref t0), some (.ref t1)] [] σ := rz_f_eq rfl (Nat.le_of_ble_eq_true rfl)
theorem g103_0 : rg Z d rx_m103 0 [some (.ref a), l1, l2, l3] S (rz_mk h ι, w) = rg Z d rx_m103 1 [some (.ref a), l1, l2, l3] (.ref a :: S) (rz_mk h ι, w) := rz_s1 fun _ => rfl
theorem g103_1 : rg Z d rx_m103 1 L S (rz_mk h ι, w) = rg Z d rx_m103 2 L (.int 0 :: S) (rz_mk h ι, w) := rz_s1 fun _ => rfl
theorem g103_2 (c : rz_fI h a 10 4) (hz : Z.2.1 ≤ a) : rg Z d rx_m103 2 L (.int x :: .ref a :: S) (rz_mk h ι, w) = rg Z d rx_m103 5 L S (rz_mk h (rz_up ι a 4 x), w) := rz_pI rfl c hz
theorem g103_5 : rg Z d rx_m103 5 [some (.ref a), l1, l2, l3] S (rz_mk h ι, w) = rg Z d rx_m103 6 [some (.ref a), l1, l2, l3] (.ref a :: S) (rz_mk h ι, w) := rz_s1 fun _ => rfl
theorem g103_6 : rg Z d rx_m103 6 L S (rz_mk h ι, w) = rg Z d rx_m103 7 L (.int 0 :: S) (rz_mk h ι, w) := rz_s1 fun _ => rfl
theorem g103_7 (c : rz_fI h a 10 5) (hz : Z.2.1 ≤ a) : rg Z d rx_m103 7 L (.int x :: .ref a :: S) (rz_mk h ι, w) = rg Z d rx_m103 10 L S (rz_mk h (rz_up ι a 5 x), w) := rz_pI rfl c hz
theorem g103_10 : rg Z d rx_m103 10 L S (rz_mk h ι, w) = rg Z d rx_m103 11 L (.int 0 :: S) (rz_mk h ι, w) := rz_s1 fun _ => rfl
theorem g103_11 : rg Z d rx_m103 11 [some (.ref b), l1, l2, l3] (.int x :: S) (rz_mk h ι, w) = rg Z d rx_m103 12 [some (.ref b), some (.int x), l2, l3] S (rz_mk h ι, w) := rz_s1 fun _ => rfl
theorem g103_12 : rg Z d rx_m103 12 [l0, some (.int x), l2, l3] S (rz_mk h ι, w) = rg Z d rx_m103 13 [l0, some (.int x), l2, l3] (.int x :: S) (rz_mk h ι, w) := rz_s1 fun _ => rfl
theorem g103_13 : rg Z d rx_m103 13 L S (rz_mk h ι, w) = rg Z d rx_m103 16 L (.int 150 :: S) (rz_mk h ι, w) := rz_s1 fun _ => rfl
theorem g103_16 : rg Z d rx_m103 16 L (.int y :: .int x :: S) (rz_mk h ι, w) = if y < x then rg Z d rx_m103 78 L S (rz_mk h ι, w) else rg Z d rx_m103 19 L S (rz_mk h ι, w) := rz_if2 (pc := 16) (t := 78) (off := 62) (cc := .gt) (by decide) rfl
theorem g103_19 : rg Z d rx_m103 19 [some (.ref a), l1, l2, l3] S (rz_mk h ι, w) = rg Z d rx_m103 20 [some (.ref a), l1, l2, l3] (.ref a :: S) (rz_mk h ι, w) := rz_s1 fun _ => rfl
theorem g103_20 (c : rz_fR h a 10 0) : rg Z d rx_m103 20 L (.ref a :: S) (rz_mk h ι, w) = rg Z d rx_m103 23 L (rz_rv h a 0 :: S) (rz_mk h ι, w) := rz_gR rfl (by decide) c
theorem g103_23 (c : rz_oc h a 9) : rg Z d rx_m103 23 L (.ref a :: []) (rz_mk h ι, w) = rz_k true (rz_f Z d 94 [.ref a] (rz_mk h ι, w)) (fun v σ' => rg Z d rx_m103 26 L (v.toList ++ []) σ') := rz_cv (pc := 23) (n := 0) (mi := 94) (S := .ref a :: []) (rest := []) rfl rfl (Nat.le_of_ble_eq_true rfl) (Nat.le_of_ble_eq_true rfl) c
theorem g103_26 : rg Z d rx_m103 26 [l0, some (.int z), l2, l3] (.int x :: S) (rz_mk h ι, w) = rg Z d rx_m103 27 [l0, some (.int z), some (.int x), l3] S (rz_mk h ι, w) := rz_s1 fun _ => rfl
theorem g103_27 : rg Z d rx_m103 27 [l0, l1, some (.int x), l3] S (rz_mk h ι, w) = rg Z d rx_m103 28 [l0, l1, some (.int x), l3] (.int x :: S) (rz_mk h ι, w) := rz_s1 fun _ => rfl
theorem g103_28 : rg Z d rx_m103 28 L S (rz_mk h ι, w) = rg Z d rx_m103 29 L (.int (-1) :: S) (rz_mk h ι, w) := rz_s1 fun _ => rfl
theorem g103_29 : rg Z d rx_m103 29 L (.int y :: .int x :: S) (rz_mk h ι, w) = if x = y then rg Z d rx_m103 32 L S (rz_mk h ι, w) else rg Z d rx_m103 41 L S (rz_mk h ι, w) := rz_if2 (pc := 29) (t := 41) (off := 12) (cc := .ne) (by decide) rfl
theorem g103_32 : rg Z d rx_m103 32 [some (.ref a), l1, l2, l3] S (rz_mk h ι, w) = rg Z d rx_m103 33 [some (.ref a), l1, l2, l3] (.ref a :: S) (rz_mk h ι, w) := rz_s1 fun _ => rfl
theorem g103_33 (c : rz_fI h a 10 5) : rg Z d rx_m103 33 L (.ref a :: S) (rz_mk h ι, w) = rg Z d rx_m103 36 L (.int (ι a 5) :: S) (rz_mk h ι, w) := rz_gI rfl (by decide) c
theorem g103_36 : rg Z d rx_m103 36 L (.int x :: S) (rz_mk h ι, w) = if x = 0 then rg Z d rx_m103 39 L S (rz_mk h ι, w) else rg Z d rx_m103 41 L S (rz_mk h ι, w) := rz_if1 (pc := 36) (t := 41) (off := 5) (cc := .ne) (by decide) rfl
theorem g103_39 : rg Z d rx_m103 39 L S (rz_mk h ι, w) = rg Z d rx_m103 40 L (.int 1 :: S) (rz_mk h ι, w) := rz_s1 fun _ => rfl
theorem g103_40 (c : narrow .boolean (.int x) = .int x) : rg Z d rx_m103 40 L [.int x] (rz_mk h ι, w) = some (.inl (some (.int x)), (rz_mk h ι, w)) := rz_reti rfl rfl c
theorem g103_41 : rg Z d rx_m103 41 [l0, l1, some (.int x), l3] S (rz_mk h ι, w) = rg Z d rx_m103 42 [l0, l1, some (.int x), l3] (.int x :: S) (rz_mk h ι, w) := rz_s1 fun _ => rfl
theorem g103_42 : rg Z d rx_m103 42 L S (rz_mk h ι, w) = rg Z d rx_m103 44 L (.int 93 :: S) (rz_mk h ι, w) := rz_s1 fun _ => rfl
theorem g103_44 : rg Z d rx_m103 44 L (.int y :: .int x :: S) (rz_mk h ι, w) = if x = y then rg Z d rx_m103 47 L S (rz_mk h ι, w) else rg Z d rx_m103 61 L S (rz_mk h ι, w) := rz_if2 (pc := 44) (t := 61) (off := 17) (cc := .ne) (by decide) rfl
theorem g103_47 : rg Z d rx_m103 47 [some (.ref a), l1, l2, l3] S (rz_mk h ι, w) = rg Z d rx_m103 48 [some (.ref a), l1, l2, l3] (.ref a :: S) (rz_mk h ι, w) := rz_s1 fun _ => rfl
theorem g103_48 (c : rz_fI h a 10 5) : rg Z d rx_m103 48 L (.ref a :: S) (rz_mk h ι, w) = rg Z d rx_m103 51 L (.int (ι a 5) :: S) (rz_mk h ι, w) := rz_gI rfl (by decide) c
theorem g103_51 : rg Z d rx_m103 51 L (.int x :: S) (rz_mk h ι, w) = if 0 < x then rg Z d rx_m103 54 L S (rz_mk h ι, w) else rg Z d rx_m103 61 L S (rz_mk h ι, w) := rz_if1 (pc := 51) (t := 61) (off := 10) (cc := .le) (by decide) rfl
theorem g103_54 : rg Z d rx_m103 54 [some (.ref a), l1, l2, l3] S (rz_mk h ι, w) = rg Z d rx_m103 55 [some (.ref a), l1, l2, l3] (.ref a :: S) (rz_mk h ι, w) := rz_s1 fun _ => rfl
theorem g103_55 (c : rz_oc h a 10) : rg Z d rx_m103 55 L (.ref a :: []) (rz_mk h ι, w) = rz_k true (rz_f Z d 104 [.ref a] (rz_mk h ι, w)) (fun v σ' => rg Z d rx_m103 58 L (v.toList ++ []) σ') := rz_cv (pc := 55) (n := 0) (mi := 104) (S := .ref a :: []) (rest := []) rfl rfl (Nat.le_of_ble_eq_true rfl) (Nat.le_of_ble_eq_true rfl) c
theorem g103_58 : rg Z d rx_m103 58 L S (rz_mk h ι, w) = rg Z d rx_m103 65 L S (rz_mk h ι, w) := rz_s1 fun _ => rfl
theorem g103_61 : rg Z d rx_m103 61 [some (.ref a), l1, l2, l3] S (rz_mk h ι, w) = rg Z d rx_m103 62 [some (.ref a), l1, l2, l3] (.ref a :: S) (rz_mk h ι, w) := rz_s1 fun _ => rfl
theorem g103_62 (c : rz_oc h a 10) : rg Z d rx_m103 62 L (.ref a :: []) (rz_mk h ι, w) = rz_k true (rz_f Z d 105 [.ref a] (rz_mk h ι, w)) (fun v σ' => rg Z d rx_m103 65 L (v.toList ++ []) σ') := rz_cv (pc := 62) (n := 0) (mi := 105) (S := .ref a :: []) (rest := []) rfl rfl (Nat.le_of_ble_eq_true rfl) (Nat.le_of_ble_eq_true rfl) c
theorem g103_65 : rg Z d rx_m103 65 [l0, l1, some (.int z), l3] (.int x :: S) (rz_mk h ι, w) = rg Z d rx_m103 66 [l0, l1, some (.int z), some (.int x)] S (rz_mk h ι, w) := rz_s1 fun _ => rfl
theorem g103_66 : rg Z d rx_m103 66 [l0, l1, l2, some (.int x)] S (rz_mk h ι, w) = rg Z d rx_m103 67 [l0, l1, l2, some (.int x)] (.int x :: S) (rz_mk h ι, w) := rz_s1 fun _ => rfl
theorem g103_67 : rg Z d rx_m103 67 L (.int x :: S) (rz_mk h ι, w) = if x = 0 then rg Z d rx_m103 70 L S (rz_mk h ι, w) else rg Z d rx_m103 72 L S (rz_mk h ι, w) := rz_if1 (pc := 67) (t := 72) (off := 5) (cc := .ne) (by decide) rfl
theorem g103_70 : rg Z d rx_m103 70 L S (rz_mk h ι, w) = rg Z d rx_m103 71 L (.int 0 :: S) (rz_mk h ι, w) := rz_s1 fun _ => rfl
theorem g103_71 (c : narrow .boolean (.int x) = .int x) : rg Z d rx_m103 71 L [.int x] (rz_mk h ι, w) = some (.inl (some (.int x)), (rz_mk h ι, w)) := rz_reti rfl rfl c
theorem g103_72 : rg Z d rx_m103 72 [some (.ref b), some (.int x), l2, l3] S (rz_mk h ι, w) = rg Z d rx_m103 75 [some (.ref b), some (.int (x + 1)), l2, l3] S (rz_mk h ι, w) := rz_s1 fun _ => rfl
theorem g103_75 : rg Z d rx_m103 75 L S (rz_mk h ι, w) = rg Z d rx_m103 12 L S (rz_mk h ι, w) := rz_s1 fun _ => rfl
theorem g103_78 : rg Z d rx_m103 78 L S (rz_mk h ι, w) = rg Z d rx_m103 79 L (.int 1 :: S) (rz_mk h ι, w) := rz_s1 fun _ => rfl
theorem g103_79 (c : narrow .boolean (.int x) = .int x) : rg Z d rx_m103 79 L [.int x] (rz_mk h ι, w) = some (.inl (some (.int x)), (rz_mk h ι, w)) := rz_reti rfl rfl c
theorem e103 : rz_f Z (d + 1) 103 [.ref t0] σ = rg Z d rx_m103 0 [some (.ref t0), none, none, none] [] σ := rz_f_eq rfl (Nat.le_of_ble_eq_true rfl)
theorem g104_0 : rg Z d rx_m104 0 [some (.ref a), l1] S (rz_mk h ι, w) = rg Z d rx_m104 1 [some (.ref a), l1] (.ref a :: S) (rz_mk h ι, w) := rz_s1 fun _ => rfl
theorem g104_1 : rg Z d rx_m104 1 L (.ref a :: S) (rz_mk h ι, w) = rg Z d rx_m104 2 L (.ref a :: .ref a :: S) (rz_mk h ι, w) := rz_s1 fun _ => rfl
theorem g104_2 (c : rz_fI h a 10 5) : rg Z d rx_m104 2 L (.ref a :: S) (rz_mk h ι, w) = rg Z d rx_m104 5 L (.int (ι a 5) :: S) (rz_mk h ι, w) := rz_gI rfl (by decide) c
theorem g104_5 : rg Z d rx_m104 5 L S (rz_mk h ι, w) = rg Z d rx_m104 6 L (.int 1 :: S) (rz_mk h ι, w) := rz_s1 fun _ => rfl
theorem g104_6 : rg Z d rx_m104 6 L (.int y :: .int x :: S) (rz_mk h ι, w) = rg Z d rx_m104 7 L (.int (x - y) :: S) (rz_mk h ι, w) := rz_s1 fun _ => rfl
theorem g104_7 (c : rz_fI h a 10 5) (hz : Z.2.1 ≤ a) : rg Z d rx_m104 7 L (.int x :: .ref a :: S) (rz_mk h ι, w) = rg Z d rx_m104 10 L S (rz_mk h (rz_up ι a 5 x), w) := rz_pI rfl c hz
theorem g104_10 : rg Z d rx_m104 10 [some (.ref a), l1] S (rz_mk h ι, w) = rg Z d rx_m104 11 [some (.ref a), l1] (.ref a :: S) (rz_mk h ι, w) := rz_s1 fun _ => rfl
theorem g104_11 (c : rz_fI h a 10 5) : rg Z d rx_m104 11 L (.ref a :: S) (rz_mk h ι, w) = rg Z d rx_m104 14 L (.int (ι a 5) :: S) (rz_mk h ι, w) := rz_gI rfl (by decide) c
theorem g104_14 : rg Z d rx_m104 14 L (.int x :: S) (rz_mk h ι, w) = if x < 0 then rg Z d rx_m104 38 L S (rz_mk h ι, w) else rg Z d rx_m104 17 L S (rz_mk h ι, w) := rz_if1 (pc := 14) (t := 38) (off := 24) (cc := .lt) (by decide) rfl
theorem g104_17 : rg Z d rx_m104 17 [some (.ref a), l1] S (rz_mk h ι, w) = rg Z d rx_m104 18 [some (.ref a), l1] (.ref a :: S) (rz_mk h ι, w) := rz_s1 fun _ => rfl
theorem g104_18 (c : rz_fI h a 10 5) : rg Z d rx_m104 18 L (.ref a :: S) (rz_mk h ι, w) = rg Z d rx_m104 21 L (.int (ι a 5) :: S) (rz_mk h ι, w) := rz_gI rfl (by decide) c
theorem g104_21 : rg Z d rx_m104 21 L S (rz_mk h ι, w) = rg Z d rx_m104 23 L (.int 6 :: S) (rz_mk h ι, w) := rz_s1 fun _ => rfl
theorem g104_23 : rg Z d rx_m104 23 L (.int y :: .int x :: S) (rz_mk h ι, w) = if x < y then rg Z d rx_m104 26 L S (rz_mk h ι, w) else rg Z d rx_m104 38 L S (rz_mk h ι, w) := rz_if2 (pc := 23) (t := 38) (off := 15) (cc := .ge) (by decide) rfl
theorem g104_26 : rg Z d rx_m104 26 [some (.ref a), l1] S (rz_mk h ι, w) = rg Z d rx_m104 27 [some (.ref a), l1] (.ref a :: S) (rz_mk h ι, w) := rz_s1 fun _ => rfl
theorem g104_27 (c : rz_fR h a 10 2) : rg Z d rx_m104 27 L (.ref a :: S) (rz_mk h ι, w) = rg Z d rx_m104 30 L (rz_rv h a 2 :: S) (rz_mk h ι, w) := rz_gR rfl (by decide) c
theorem g104_30 : rg Z d rx_m104 30 [some (.ref a), l1] S (rz_mk h ι, w) = rg Z d rx_m104 31 [some (.ref a), l1] (.ref a :: S) (rz_mk h ι, w) := rz_s1 fun _ => rfl
theorem g104_31 (c : rz_fI h a 10 5) : rg Z d rx_m104 31 L (.ref a :: S) (rz_mk h ι, w) = rg Z d rx_m104 34 L (.int (ι a 5) :: S) (rz_mk h ι, w) := rz_gI rfl (by decide) c
theorem g104_34 (c : rz_ar h a 0) (hi : rz_ix x (rz_ln h a)) : rg Z d rx_m104 34 L (.int x :: .ref a :: S) (rz_mk h ι, w) = rg Z d rx_m104 35 L (.int (ι a x.toNatClampNeg) :: S) (rz_mk h ι, w) := rz_iald rfl c hi
theorem g104_35 : rg Z d rx_m104 35 L S (rz_mk h ι, w) = rg Z d rx_m104 39 L S (rz_mk h ι, w) := rz_s1 fun _ => rfl
theorem g104_38 : rg Z d rx_m104 38 L S (rz_mk h ι, w) = rg Z d rx_m104 39 L (.int 0 :: S) (rz_mk h ι, w) := rz_s1 fun _ => rfl
theorem g104_39 : rg Z d rx_m104 39 [some (.ref b), l1] (.int x :: S) (rz_mk h ι, w) = rg Z d rx_m104 40 [some (.ref b), some (.int x)] S (rz_mk h ι, w) := rz_s1 fun _ => rfl
theorem g104_40 : rg Z d rx_m104 40 [some (.ref a), l1] S (rz_mk h ι, w) = rg Z d rx_m104 41 [some (.ref a), l1] (.ref a :: S) (rz_mk h ι, w) := rz_s1 fun _ => rfl
theorem g104_41 : rg Z d rx_m104 41 [l0, some (.int x)] S (rz_mk h ι, w) = rg Z d rx_m104 42 [l0, some (.int x)] (.int x :: S) (rz_mk h ι, w) := rz_s1 fun _ => rfl
theorem g104_42 : rg Z d rx_m104 42 L S (rz_mk h ι, w) = rg Z d rx_m104 43 L (.int 2 :: S) (rz_mk h ι, w) := rz_s1 fun _ => rfl
theorem g104_43 : rg Z d rx_m104 43 [some (.ref a), l1] S (rz_mk h ι, w) = rg Z d rx_m104 44 [some (.ref a), l1] (.ref a :: S) (rz_mk h ι, w) := rz_s1 fun _ => rfl
theorem g104_44 (c : rz_fI h a 10 4) : rg Z d rx_m104 44 L (.ref a :: S) (rz_mk h ι, w) = rg Z d rx_m104 47 L (.int (ι a 4) :: S) (rz_mk h ι, w) := rz_gI rfl (by decide) c
theorem g104_47 (c : rz_oc h a 10) : rg Z d rx_m104 47 L (v3 :: v2 :: v1 :: .ref a :: []) (rz_mk h ι, w) = rz_k true (rz_f Z d 112 [.ref a, v1, v2, v3] (rz_mk h ι, w)) (fun v σ' => rg Z d rx_m104 50 L (v.toList ++ []) σ') := rz_cv (pc := 47) (n := 3) (mi := 112) (S := v3 :: v2 :: v1 :: .ref a :: []) (rest := []) rfl rfl (Nat.le_of_ble_eq_true rfl) (Nat.le_of_ble_eq_true rfl) c
theorem g104_50 : rg Z d rx_m104 50 [some (.ref a), l1] S (rz_mk h ι, w) = rg Z d rx_m104 51 [some (.ref a), l1] (.ref a :: S) (rz_mk h ι, w) := rz_s1 fun _ => rfl
theorem g104_51 : rg Z d rx_m104 51 L S (rz_mk h ι, w) = rg Z d rx_m104 53 L (.int 6 :: S) (rz_mk h ι, w) := rz_s1 fun _ => rfl
theorem g104_53 : rg Z d rx_m104 53 [l0, some (.int x)] S (rz_mk h ι, w) = rg Z d rx_m104 54 [l0, some (.int x)] (.int x :: S) (rz_mk h ι, w) := rz_s1 fun _ => rfl
theorem g104_54 : rg Z d rx_m104 54 L S (rz_mk h ι, w) = rg Z d rx_m104 55 L (.int 0 :: S) (rz_mk h ι, w) := rz_s1 fun _ => rfl
theorem g104_55 : rg Z d rx_m104 55 L S (rz_mk h ι, w) = rg Z d rx_m104 56 L (.int 0 :: S) (rz_mk h ι, w) := rz_s1 fun _ => rfl
theorem g104_56 (c : rz_oc h a 10) : rg Z d rx_m104 56 L (v4 :: v3 :: v2 :: v1 :: .ref a :: []) (rz_mk h ι, w) = rz_k true (rz_f Z d 111 [.ref a, v1, v2, v3, v4] (rz_mk h ι, w)) (fun v σ' => rg Z d rx_m104 59 L (v.toList ++ []) σ') := rz_cv (pc := 56) (n := 4) (mi := 111) (S := v4 :: v3 :: v2 :: v1 :: .ref a :: []) (rest := []) rfl rfl (Nat.le_of_ble_eq_true rfl) (Nat.le_of_ble_eq_true rfl) c
theorem g104_59 : rg Z d rx_m104 59 L (.int x :: S) (rz_mk h ι, w) = rg Z d rx_m104 60 L S (rz_mk h ι, w) := rz_s1 fun _ => rfl
theorem g104_60 : rg Z d rx_m104 60 [some (.ref a), l1] S (rz_mk h ι, w) = rg Z d rx_m104 61 [some (.ref a), l1] (.ref a :: S) (rz_mk h ι, w) := rz_s1 fun _ => rfl
theorem g104_61 (c : rz_fR h a 10 0) : rg Z d rx_m104 61 L (.ref a :: S) (rz_mk h ι, w) = rg Z d rx_m104 64 L (rz_rv h a 0 :: S) (rz_mk h ι, w) := rz_gR rfl (by decide) c
theorem g104_64 : rg Z d rx_m104 64 L S (rz_mk h ι, w) = rg Z d rx_m104 66 L (.int 93 :: S) (rz_mk h ι, w) := rz_s1 fun _ => rfl
theorem g104_66 (c : rz_oc h a 9) : rg Z d rx_m104 66 L (v1 :: .ref a :: []) (rz_mk h ι, w) = rz_k true (rz_f Z d 96 [.ref a, v1] (rz_mk h ι, w)) (fun v σ' => rg Z d rx_m104 69 L (v.toList ++ []) σ') := rz_cv (pc := 66) (n := 1) (mi := 96) (S := v1 :: .ref a :: []) (rest := []) rfl rfl (Nat.le_of_ble_eq_true rfl) (Nat.le_of_ble_eq_true rfl) c
theorem g104_69 : rg Z d rx_m104 69 L (.int x :: S) (rz_mk h ι, w) = if x = 0 then rg Z d rx_m104 88 L S (rz_mk h ι, w) else rg Z d rx_m104 72 L S (rz_mk h ι, w) := rz_if1 (pc := 69) (t := 88) (off := 19) (cc := .eq) (by decide) rfl
theorem g104_72 : rg Z d rx_m104 72 [some (.ref a), l1] S (rz_mk h ι, w) = rg Z d rx_m104 73 [some (.ref a), l1] (.ref a :: S) (rz_mk h ι, w) := rz_s1 fun _ => rfl
theorem g104_73 (c : rz_fR h a 10 0) : rg Z d rx_m104 73 L (.ref a :: S) (rz_mk h ι, w) = rg Z d rx_m104 76 L (rz_rv h a 0 :: S) (rz_mk h ι, w) := rz_gR rfl (by decide) c
theorem g104_76 : rg Z d rx_m104 76 L S (rz_mk h ι, w) = rg Z d rx_m104 78 L (.int 59 :: S) (rz_mk h ι, w) := rz_s1 fun _ => rfl
theorem g104_78 (c : rz_oc h a 9) : rg Z d rx_m104 78 L (v1 :: .ref a :: []) (rz_mk h ι, w) = rz_k true (rz_f Z d 96 [.ref a, v1] (rz_mk h ι, w)) (fun v σ' => rg Z d rx_m104 81 L (v.toList ++ []) σ') := rz_cv (pc := 78) (n := 1) (mi := 96) (S := v1 :: .ref a :: []) (rest := []) rfl rfl (Nat.le_of_ble_eq_true rfl) (Nat.le_of_ble_eq_true rfl) c
theorem g104_81 : rg Z d rx_m104 81 L (.int x :: S) (rz_mk h ι, w) = if x = 0 then rg Z d rx_m104 88 L S (rz_mk h ι, w) else rg Z d rx_m104 84 L S (rz_mk h ι, w) := rz_if1 (pc := 81) (t := 88) (off := 7) (cc := .eq) (by decide) rfl
theorem g104_84 : rg Z d rx_m104 84 L S (rz_mk h ι, w) = rg Z d rx_m104 85 L (.int 1 :: S) (rz_mk h ι, w) := rz_s1 fun _ => rfl
theorem g104_85 : rg Z d rx_m104 85 L S (rz_mk h ι, w) = rg Z d rx_m104 89 L S (rz_mk h ι, w) := rz_s1 fun _ => rfl
theorem g104_88 : rg Z d rx_m104 88 L S (rz_mk h ι, w) = rg Z d rx_m104 89 L (.int 0 :: S) (rz_mk h ι, w) := rz_s1 fun _ => rfl
theorem g104_89 (c : narrow .boolean (.int x) = .int x) : rg Z d rx_m104 89 L [.int x] (rz_mk h ι, w) = some (.inl (some (.int x)), (rz_mk h ι, w)) := rz_reti rfl rfl c
theorem e104 : rz_f Z (d + 1) 104 [.ref t0] σ = rg Z d rx_m104 0 [some (.ref t0), none] [] σ := rz_f_eq rfl (Nat.le_of_ble_eq_true rfl)
theorem g105_0 : rg Z d rx_m105 0 [some (.ref a)] S (rz_mk h ι, w) = rg Z d rx_m105 1 [some (.ref a)] (.ref a :: S) (rz_mk h ι, w) := rz_s1 fun _ => rfl
theorem g105_1 (c : rz_fR h a 10 0) : rg Z d rx_m105 1 L (.ref a :: S) (rz_mk h ι, w) = rg Z d rx_m105 4 L (rz_rv h a 0 :: S) (rz_mk h ι, w) := rz_gR rfl (by decide) c
theorem g105_4 (c : rz_oc h a 9) : rg Z d rx_m105 4 L (.ref a :: []) (rz_mk h ι, w) = rz_k true (rz_f Z d 100 [.ref a] (rz_mk h ι, w)) (fun v σ' => rg Z d rx_m105 7 L (v.toList ++ []) σ') := rz_cv (pc := 4) (n := 0) (mi := 100) (S := .ref a :: []) (rest := []) rfl rfl (Nat.le_of_ble_eq_true rfl) (Nat.le_of_ble_eq_true rfl) c
theorem g105_7 : rg Z d rx_m105 7 [some (.ref a)] S (rz_mk h ι, w) = rg Z d rx_m105 8 [some (.ref a)] (.ref a :: S) (rz_mk h ι, w) := rz_s1 fun _ => rfl
theorem g105_8 (c : rz_fR h a 10 0) : rg Z d rx_m105 8 L (.ref a :: S) (rz_mk h ι, w) = rg Z d rx_m105 11 L (rz_rv h a 0 :: S) (rz_mk h ι, w) := rz_gR rfl (by decide) c
theorem g105_11 : rg Z d rx_m105 11 L S (rz_mk h ι, w) = rg Z d rx_m105 13 L (.ref (Z.2.2.2 15) :: S) (rz_mk h ι, w) := rz_s1 fun _ => rfl
theorem g105_13 (c : rz_oc h a 9) : rg Z d rx_m105 13 L (v1 :: .ref a :: []) (rz_mk h ι, w) = rz_k true (rz_f Z d 101 [.ref a, v1] (rz_mk h ι, w)) (fun v σ' => rg Z d rx_m105 16 L (v.toList ++ []) σ') := rz_cv (pc := 13) (n := 1) (mi := 101) (S := v1 :: .ref a :: []) (rest := []) rfl rfl (Nat.le_of_ble_eq_true rfl) (Nat.le_of_ble_eq_true rfl) c
theorem g105_16 : rg Z d rx_m105 16 L (.int x :: S) (rz_mk h ι, w) = if x = 0 then rg Z d rx_m105 24 L S (rz_mk h ι, w) else rg Z d rx_m105 19 L S (rz_mk h ι, w) := rz_if1 (pc := 16) (t := 24) (off := 8) (cc := .eq) (by decide) rfl
theorem g105_19 : rg Z d rx_m105 19 [some (.ref a)] S (rz_mk h ι, w) = rg Z d rx_m105 20 [some (.ref a)] (.ref a :: S) (rz_mk h ι, w) := rz_s1 fun _ => rfl
theorem g105_20 (c : rz_oc h a 10) : rg Z d rx_m105 20 L (.ref a :: []) (rz_mk h ι, w) = rz_k true (rz_f Z d 107 [.ref a] (rz_mk h ι, w)) (fun v σ' => rg Z d rx_m105 23 L (v.toList ++ []) σ') := rz_cv (pc := 20) (n := 0) (mi := 107) (S := .ref a :: []) (rest := []) rfl rfl (Nat.le_of_ble_eq_true rfl) (Nat.le_of_ble_eq_true rfl) c
theorem g105_23 (c : narrow .boolean (.int x) = .int x) : rg Z d rx_m105 23 L [.int x] (rz_mk h ι, w) = some (.inl (some (.int x)), (rz_mk h ι, w)) := rz_reti rfl rfl c
theorem g105_24 : rg Z d rx_m105 24 [some (.ref a)] S (rz_mk h ι, w) = rg Z d rx_m105 25 [some (.ref a)] (.ref a :: S) (rz_mk h ι, w) := rz_s1 fun _ => rfl
theorem g105_25 (c : rz_oc h a 10) : rg Z d rx_m105 25 L (.ref a :: []) (rz_mk h ι, w) = rz_k true (rz_f Z d 106 [.ref a] (rz_mk h ι, w)) (fun v σ' => rg Z d rx_m105 28 L (v.toList ++ []) σ') := rz_cv (pc := 25) (n := 0) (mi := 106) (S := .ref a :: []) (rest := []) rfl rfl (Nat.le_of_ble_eq_true rfl) (Nat.le_of_ble_eq_true rfl) c
theorem g105_28 : rg Z d rx_m105 28 L (.int x :: S) (rz_mk h ι, w) = if x = 0 then rg Z d rx_m105 47 L S (rz_mk h ι, w) else rg Z d rx_m105 31 L S (rz_mk h ι, w) := rz_if1 (pc := 28) (t := 47) (off := 19) (cc := .eq) (by decide) rfl
theorem g105_31 : rg Z d rx_m105 31 [some (.ref a)] S (rz_mk h ι, w) = rg Z d rx_m105 32 [some (.ref a)] (.ref a :: S) (rz_mk h ι, w) := rz_s1 fun _ => rfl
theorem g105_32 (c : rz_fR h a 10 0) : rg Z d rx_m105 32 L (.ref a :: S) (rz_mk h ι, w) = rg Z d rx_m105 35 L (rz_rv h a 0 :: S) (rz_mk h ι, w) := rz_gR rfl (by decide) c
theorem g105_35 : rg Z d rx_m105 35 L S (rz_mk h ι, w) = rg Z d rx_m105 37 L (.int 59 :: S) (rz_mk h ι, w) := rz_s1 fun _ => rfl
theorem g105_37 (c : rz_oc h a 9) : rg Z d rx_m105 37 L (v1 :: .ref a :: []) (rz_mk h ι, w) = rz_k true (rz_f Z d 96 [.ref a, v1] (rz_mk h ι, w)) (fun v σ' => rg Z d rx_m105 40 L (v.toList ++ []) σ') := rz_cv (pc := 37) (n := 1) (mi := 96) (S := v1 :: .ref a :: []) (rest := []) rfl rfl (Nat.le_of_ble_eq_true rfl) (Nat.le_of_ble_eq_true rfl) c
theorem g105_40 : rg Z d rx_m105 40 L (.int x :: S) (rz_mk h ι, w) = if x = 0 then rg Z d rx_m105 47 L S (rz_mk h ι, w) else rg Z d rx_m105 43 L S (rz_mk h ι, w) := rz_if1 (pc := 40) (t := 47) (off := 7) (cc := .eq) (by decide) rfl
theorem g105_43 : rg Z d rx_m105 43 L S (rz_mk h ι, w) = rg Z d rx_m105 44 L (.int 1 :: S) (rz_mk h ι, w) := rz_s1 fun _ => rfl
theorem g105_44 : rg Z d rx_m105 44 L S (rz_mk h ι, w) = rg Z d rx_m105 48 L S (rz_mk h ι, w) := rz_s1 fun _ => rfl
theorem g105_47 : rg Z d rx_m105 47 L S (rz_mk h ι, w) = rg Z d rx_m105 48 L (.int 0 :: S) (rz_mk h ι, w) := rz_s1 fun _ => rfl
theorem g105_48 (c : narrow .boolean (.int x) = .int x) : rg Z d rx_m105 48 L [.int x] (rz_mk h ι, w) = some (.inl (some (.int x)), (rz_mk h ι, w)) := rz_reti rfl rfl c
theorem e105 : rz_f Z (d + 1) 105 [.ref t0] σ = rg Z d rx_m105 0 [some (.ref t0)] [] σ := rz_f_eq rfl (Nat.le_of_ble_eq_true rfl)
theorem g106_0 : rg Z d rx_m106 0 [some (.ref a)] S (rz_mk h ι, w) = rg Z d rx_m106 1 [some (.ref a)] (.ref a :: S) (rz_mk h ι, w) := rz_s1 fun _ => rfl
theorem g106_1 (c : rz_fR h a 10 0) : rg Z d rx_m106 1 L (.ref a :: S) (rz_mk h ι, w) = rg Z d rx_m106 4 L (rz_rv h a 0 :: S) (rz_mk h ι, w) := rz_gR rfl (by decide) c
theorem g106_4 : rg Z d rx_m106 4 L S (rz_mk h ι, w) = rg Z d rx_m106 6 L (.ref (Z.2.2.2 16) :: S) (rz_mk h ι, w) := rz_s1 fun _ => rfl
theorem g106_6 (c : rz_oc h a 9) : rg Z d rx_m106 6 L (v1 :: .ref a :: []) (rz_mk h ι, w) = rz_k true (rz_f Z d 101 [.ref a, v1] (rz_mk h ι, w)) (fun v σ' => rg Z d rx_m106 9 L (v.toList ++ []) σ') := rz_cv (pc := 6) (n := 1) (mi := 101) (S := v1 :: .ref a :: []) (rest := []) rfl rfl (Nat.le_of_ble_eq_true rfl) (Nat.le_of_ble_eq_true rfl) c
theorem g106_9 : rg Z d rx_m106 9 L (.int x :: S) (rz_mk h ι, w) = if x = 0 then rg Z d rx_m106 17 L S (rz_mk h ι, w) else rg Z d rx_m106 12 L S (rz_mk h ι, w) := rz_if1 (pc := 9) (t := 17) (off := 8) (cc := .eq) (by decide) rfl
theorem g106_12 : rg Z d rx_m106 12 [some (.ref a)] S (rz_mk h ι, w) = rg Z d rx_m106 13 [some (.ref a)] (.ref a :: S) (rz_mk h ι, w) := rz_s1 fun _ => rfl
theorem g106_13 (c : rz_oc h a 10) : rg Z d rx_m106 13 L (.ref a :: []) (rz_mk h ι, w) = rz_k true (rz_f Z d 108 [.ref a] (rz_mk h ι, w)) (fun v σ' => rg Z d rx_m106 16 L (v.toList ++ []) σ') := rz_cv (pc := 13) (n := 0) (mi := 108) (S := .ref a :: []) (rest := []) rfl rfl (Nat.le_of_ble_eq_true rfl) (Nat.le_of_ble_eq_true rfl) c
theorem g106_16 (c : narrow .boolean (.int x) = .int x) : rg Z d rx_m106 16 L [.int x] (rz_mk h ι, w) = some (.inl (some (.int x)), (rz_mk h ι, w)) := rz_reti rfl rfl c
theorem g106_17 : rg Z d rx_m106 17 [some (.ref a)] S (rz_mk h ι, w) = rg Z d rx_m106 18 [some (.ref a)] (.ref a :: S) (rz_mk h ι, w) := rz_s1 fun _ => rfl
theorem g106_18 (c : rz_fR h a 10 0) : rg Z d rx_m106 18 L (.ref a :: S) (rz_mk h ι, w) = rg Z d rx_m106 21 L (rz_rv h a 0 :: S) (rz_mk h ι, w) := rz_gR rfl (by decide) c
theorem g106_21 : rg Z d rx_m106 21 L S (rz_mk h ι, w) = rg Z d rx_m106 23 L (.ref (Z.2.2.2 17) :: S) (rz_mk h ι, w) := rz_s1 fun _ => rfl
theorem g106_23 (c : rz_oc h a 9) : rg Z d rx_m106 23 L (v1 :: .ref a :: []) (rz_mk h ι, w) = rz_k true (rz_f Z d 101 [.ref a, v1] (rz_mk h ι, w)) (fun v σ' => rg Z d rx_m106 26 L (v.toList ++ []) σ') := rz_cv (pc := 23) (n := 1) (mi := 101) (S := v1 :: .ref a :: []) (rest := []) rfl rfl (Nat.le_of_ble_eq_true rfl) (Nat.le_of_ble_eq_true rfl) c
theorem g106_26 : rg Z d rx_m106 26 L (.int x :: S) (rz_mk h ι, w) = if x = 0 then rg Z d rx_m106 35 L S (rz_mk h ι, w) else rg Z d rx_m106 29 L S (rz_mk h ι, w) := rz_if1 (pc := 26) (t := 35) (off := 9) (cc := .eq) (by decide) rfl
theorem g106_29 : rg Z d rx_m106 29 [some (.ref a)] S (rz_mk h ι, w) = rg Z d rx_m106 30 [some (.ref a)] (.ref a :: S) (rz_mk h ι, w) := rz_s1 fun _ => rfl
theorem g106_30 : rg Z d rx_m106 30 L S (rz_mk h ι, w) = rg Z d rx_m106 31 L (.int 1 :: S) (rz_mk h ι, w) := rz_s1 fun _ => rfl
theorem g106_31 (c : rz_oc h a 10) : rg Z d rx_m106 31 L (v1 :: .ref a :: []) (rz_mk h ι, w) = rz_k true (rz_f Z d 110 [.ref a, v1] (rz_mk h ι, w)) (fun v σ' => rg Z d rx_m106 34 L (v.toList ++ []) σ') := rz_cv (pc := 31) (n := 1) (mi := 110) (S := v1 :: .ref a :: []) (rest := []) rfl rfl (Nat.le_of_ble_eq_true rfl) (Nat.le_of_ble_eq_true rfl) c
theorem g106_34 (c : narrow .boolean (.int x) = .int x) : rg Z d rx_m106 34 L [.int x] (rz_mk h ι, w) = some (.inl (some (.int x)), (rz_mk h ι, w)) := rz_reti rfl rfl c
theorem g106_35 : rg Z d rx_m106 35 [some (.ref a)] S (rz_mk h ι, w) = rg Z d rx_m106 36 [some (.ref a)] (.ref a :: S) (rz_mk h ι, w) := rz_s1 fun _ => rfl
theorem g106_36 (c : rz_fR h a 10 0) : rg Z d rx_m106 36 L (.ref a :: S) (rz_mk h ι, w) = rg Z d rx_m106 39 L (rz_rv h a 0 :: S) (rz_mk h ι, w) := rz_gR rfl (by decide) c
theorem g106_39 : rg Z d rx_m106 39 L S (rz_mk h ι, w) = rg Z d rx_m106 41 L (.ref (Z.2.2.2 18) :: S) (rz_mk h ι, w) := rz_s1 fun _ => rfl
theorem g106_41 (c : rz_oc h a 9) : rg Z d rx_m106 41 L (v1 :: .ref a :: []) (rz_mk h ι, w) = rz_k true (rz_f Z d 101 [.ref a, v1] (rz_mk h ι, w)) (fun v σ' => rg Z d rx_m106 44 L (v.toList ++ []) σ') := rz_cv (pc := 41) (n := 1) (mi := 101) (S := v1 :: .ref a :: []) (rest := []) rfl rfl (Nat.le_of_ble_eq_true rfl) (Nat.le_of_ble_eq_true rfl) c
theorem g106_44 : rg Z d rx_m106 44 L (.int x :: S) (rz_mk h ι, w) = if x = 0 then rg Z d rx_m106 52 L S (rz_mk h ι, w) else rg Z d rx_m106 47 L S (rz_mk h ι, w) := rz_if1 (pc := 44) (t := 52) (off := 8) (cc := .eq) (by decide) rfl
theorem g106_47 : rg Z d rx_m106 47 [some (.ref a)] S (rz_mk h ι, w) = rg Z d rx_m106 48 [some (.ref a)] (.ref a :: S) (rz_mk h ι, w) := rz_s1 fun _ => rfl
theorem g106_48 (c : rz_oc h a 10) : rg Z d rx_m106 48 L (.ref a :: []) (rz_mk h ι, w) = rz_k true (rz_f Z d 109 [.ref a] (rz_mk h ι, w)) (fun v σ' => rg Z d rx_m106 51 L (v.toList ++ []) σ') := rz_cv (pc := 48) (n := 0) (mi := 109) (S := .ref a :: []) (rest := []) rfl rfl (Nat.le_of_ble_eq_true rfl) (Nat.le_of_ble_eq_true rfl) c
theorem g106_51 (c : narrow .boolean (.int x) = .int x) : rg Z d rx_m106 51 L [.int x] (rz_mk h ι, w) = some (.inl (some (.int x)), (rz_mk h ι, w)) := rz_reti rfl rfl c
theorem g106_52 : rg Z d rx_m106 52 [some (.ref a)] S (rz_mk h ι, w) = rg Z d rx_m106 53 [some (.ref a)] (.ref a :: S) (rz_mk h ι, w) := rz_s1 fun _ => rfl
theorem g106_53 (c : rz_fR h a 10 0) : rg Z d rx_m106 53 L (.ref a :: S) (rz_mk h ι, w) = rg Z d rx_m106 56 L (rz_rv h a 0 :: S) (rz_mk h ι, w) := rz_gR rfl (by decide) c
theorem g106_56 : rg Z d rx_m106 56 L S (rz_mk h ι, w) = rg Z d rx_m106 58 L (.ref (Z.2.2.2 19) :: S) (rz_mk h ι, w) := rz_s1 fun _ => rfl
theorem g106_58 (c : rz_oc h a 9) : rg Z d rx_m106 58 L (v1 :: .ref a :: []) (rz_mk h ι, w) = rz_k true (rz_f Z d 101 [.ref a, v1] (rz_mk h ι, w)) (fun v σ' => rg Z d rx_m106 61 L (v.toList ++ []) σ') := rz_cv (pc := 58) (n := 1) (mi := 101) (S := v1 :: .ref a :: []) (rest := []) rfl rfl (Nat.le_of_ble_eq_true rfl) (Nat.le_of_ble_eq_true rfl) c
theorem g106_61 : rg Z d rx_m106 61 L (.int x :: S) (rz_mk h ι, w) = if x = 0 then rg Z d rx_m106 70 L S (rz_mk h ι, w) else rg Z d rx_m106 64 L S (rz_mk h ι, w) := rz_if1 (pc := 61) (t := 70) (off := 9) (cc := .eq) (by decide) rfl
theorem g106_64 : rg Z d rx_m106 64 [some (.ref a)] S (rz_mk h ι, w) = rg Z d rx_m106 65 [some (.ref a)] (.ref a :: S) (rz_mk h ι, w) := rz_s1 fun _ => rfl
theorem g106_65 : rg Z d rx_m106 65 L S (rz_mk h ι, w) = rg Z d rx_m106 66 L (.int 3 :: S) (rz_mk h ι, w) := rz_s1 fun _ => rfl
theorem g106_66 (c : rz_oc h a 10) : rg Z d rx_m106 66 L (v1 :: .ref a :: []) (rz_mk h ι, w) = rz_k true (rz_f Z d 110 [.ref a, v1] (rz_mk h ι, w)) (fun v σ' => rg Z d rx_m106 69 L (v.toList ++ []) σ') := rz_cv (pc := 66) (n := 1) (mi := 110) (S := v1 :: .ref a :: []) (rest := []) rfl rfl (Nat.le_of_ble_eq_true rfl) (Nat.le_of_ble_eq_true rfl) c
theorem g106_69 (c : narrow .boolean (.int x) = .int x) : rg Z d rx_m106 69 L [.int x] (rz_mk h ι, w) = some (.inl (some (.int x)), (rz_mk h ι, w)) := rz_reti rfl rfl c
theorem g106_70 : rg Z d rx_m106 70 [some (.ref a)] S (rz_mk h ι, w) = rg Z d rx_m106 71 [some (.ref a)] (.ref a :: S) (rz_mk h ι, w) := rz_s1 fun _ => rfl
theorem g106_71 (c : rz_fR h a 10 0) : rg Z d rx_m106 71 L (.ref a :: S) (rz_mk h ι, w) = rg Z d rx_m106 74 L (rz_rv h a 0 :: S) (rz_mk h ι, w) := rz_gR rfl (by decide) c
theorem g106_74 : rg Z d rx_m106 74 L S (rz_mk h ι, w) = rg Z d rx_m106 76 L (.ref (Z.2.2.2 20) :: S) (rz_mk h ι, w) := rz_s1 fun _ => rfl
theorem g106_76 (c : rz_oc h a 9) : rg Z d rx_m106 76 L (v1 :: .ref a :: []) (rz_mk h ι, w) = rz_k true (rz_f Z d 101 [.ref a, v1] (rz_mk h ι, w)) (fun v σ' => rg Z d rx_m106 79 L (v.toList ++ []) σ') := rz_cv (pc := 76) (n := 1) (mi := 101) (S := v1 :: .ref a :: []) (rest := []) rfl rfl (Nat.le_of_ble_eq_true rfl) (Nat.le_of_ble_eq_true rfl) c
theorem g106_79 : rg Z d rx_m106 79 L (.int x :: S) (rz_mk h ι, w) = if x = 0 then rg Z d rx_m106 93 L S (rz_mk h ι, w) else rg Z d rx_m106 82 L S (rz_mk h ι, w) := rz_if1 (pc := 79) (t := 93) (off := 14) (cc := .eq) (by decide) rfl
theorem g106_82 : rg Z d rx_m106 82 [some (.ref a)] S (rz_mk h ι, w) = rg Z d rx_m106 83 [some (.ref a)] (.ref a :: S) (rz_mk h ι, w) := rz_s1 fun _ => rfl
theorem g106_83 : rg Z d rx_m106 83 L S (rz_mk h ι, w) = rg Z d rx_m106 84 L (.int 4 :: S) (rz_mk h ι, w) := rz_s1 fun _ => rfl
theorem g106_84 : rg Z d rx_m106 84 L S (rz_mk h ι, w) = rg Z d rx_m106 85 L (.int 0 :: S) (rz_mk h ι, w) := rz_s1 fun _ => rfl
theorem g106_85 : rg Z d rx_m106 85 L S (rz_mk h ι, w) = rg Z d rx_m106 86 L (.int 0 :: S) (rz_mk h ι, w) := rz_s1 fun _ => rfl
theorem g106_86 : rg Z d rx_m106 86 L S (rz_mk h ι, w) = rg Z d rx_m106 87 L (.int 0 :: S) (rz_mk h ι, w) := rz_s1 fun _ => rfl
theorem g106_87 (c : rz_oc h a 10) : rg Z d rx_m106 87 L (v4 :: v3 :: v2 :: v1 :: .ref a :: []) (rz_mk h ι, w) = rz_k true (rz_f Z d 111 [.ref a, v1, v2, v3, v4] (rz_mk h ι, w)) (fun v σ' => rg Z d rx_m106 90 L (v.toList ++ []) σ') := rz_cv (pc := 87) (n := 4) (mi := 111) (S := v4 :: v3 :: v2 :: v1 :: .ref a :: []) (rest := []) rfl rfl (Nat.le_of_ble_eq_true rfl) (Nat.le_of_ble_eq_true rfl) c
theorem g106_90 : rg Z d rx_m106 90 L S (rz_mk h ι, w) = rg Z d rx_m106 101 L S (rz_mk h ι, w) := rz_s1 fun _ => rfl
theorem g106_93 : rg Z d rx_m106 93 [some (.ref a)] S (rz_mk h ι, w) = rg Z d rx_m106 94 [some (.ref a)] (.ref a :: S) (rz_mk h ι, w) := rz_s1 fun _ => rfl
theorem g106_94 (c : rz_fR h a 10 0) : rg Z d rx_m106 94 L (.ref a :: S) (rz_mk h ι, w) = rg Z d rx_m106 97 L (rz_rv h a 0 :: S) (rz_mk h ι, w) := rz_gR rfl (by decide) c
theorem g106_97 : rg Z d rx_m106 97 L S (rz_mk h ι, w) = rg Z d rx_m106 98 L (.int 1 :: S) (rz_mk h ι, w) := rz_s1 fun _ => rfl
theorem g106_98 (c : rz_oc h a 9) : rg Z d rx_m106 98 L (v1 :: .ref a :: []) (rz_mk h ι, w) = rz_k true (rz_f Z d 92 [.ref a, v1] (rz_mk h ι, w)) (fun v σ' => rg Z d rx_m106 101 L (v.toList ++ []) σ') := rz_cv (pc := 98) (n := 1) (mi := 92) (S := v1 :: .ref a :: []) (rest := []) rfl rfl (Nat.le_of_ble_eq_true rfl) (Nat.le_of_ble_eq_true rfl) c
theorem g106_101 (c : narrow .boolean (.int x) = .int x) : rg Z d rx_m106 101 L [.int x] (rz_mk h ι, w) = some (.inl (some (.int x)), (rz_mk h ι, w)) := rz_reti rfl rfl c
theorem e106 : rz_f Z (d + 1) 106 [.ref t0] σ = rg Z d rx_m106 0 [some (.ref t0)] [] σ := rz_f_eq rfl (Nat.le_of_ble_eq_true rfl)
theorem g107_0 : rg Z d rx_m107 0 [some (.ref a), l1] S (rz_mk h ι, w) = rg Z d rx_m107 1 [some (.ref a), l1] (.ref a :: S) (rz_mk h ι, w) := rz_s1 fun _ => rfl
theorem g107_1 (c : rz_fI h a 10 5) : rg Z d rx_m107 1 L (.ref a :: S) (rz_mk h ι, w) = rg Z d rx_m107 4 L (.int (ι a 5) :: S) (rz_mk h ι, w) := rz_gI rfl (by decide) c
theorem g107_4 : rg Z d rx_m107 4 L S (rz_mk h ι, w) = rg Z d rx_m107 6 L (.int 6 :: S) (rz_mk h ι, w) := rz_s1 fun _ => rfl
theorem g107_6 : rg Z d rx_m107 6 L (.int y :: .int x :: S) (rz_mk h ι, w) = if x < y then rg Z d rx_m107 18 L S (rz_mk h ι, w) else rg Z d rx_m107 9 L S (rz_mk h ι, w) := rz_if2 (pc := 6) (t := 18) (off := 12) (cc := .lt) (by decide) rfl
theorem g107_9 : rg Z d rx_m107 9 [some (.ref a), l1] S (rz_mk h ι, w) = rg Z d rx_m107 10 [some (.ref a), l1] (.ref a :: S) (rz_mk h ι, w) := rz_s1 fun _ => rfl
theorem g107_10 (c : rz_fR h a 10 0) : rg Z d rx_m107 10 L (.ref a :: S) (rz_mk h ι, w) = rg Z d rx_m107 13 L (rz_rv h a 0 :: S) (rz_mk h ι, w) := rz_gR rfl (by decide) c
theorem g107_13 : rg Z d rx_m107 13 L S (rz_mk h ι, w) = rg Z d rx_m107 14 L (.int 3 :: S) (rz_mk h ι, w) := rz_s1 fun _ => rfl
theorem g107_14 (c : rz_oc h a 9) : rg Z d rx_m107 14 L (v1 :: .ref a :: []) (rz_mk h ι, w) = rz_k true (rz_f Z d 92 [.ref a, v1] (rz_mk h ι, w)) (fun v σ' => rg Z d rx_m107 17 L (v.toList ++ []) σ') := rz_cv (pc := 14) (n := 1) (mi := 92) (S := v1 :: .ref a :: []) (rest := []) rfl rfl (Nat.le_of_ble_eq_true rfl) (Nat.le_of_ble_eq_true rfl) c
theorem g107_17 (c : narrow .boolean (.int x) = .int x) : rg Z d rx_m107 17 L [.int x] (rz_mk h ι, w) = some (.inl (some (.int x)), (rz_mk h ι, w)) := rz_reti rfl rfl c
theorem g107_18 : rg Z d rx_m107 18 [some (.ref a), l1] S (rz_mk h ι, w) = rg Z d rx_m107 19 [some (.ref a), l1] (.ref a :: S) (rz_mk h ι, w) := rz_s1 fun _ => rfl
theorem g107_19 (c : rz_fR h a 10 0) : rg Z d rx_m107 19 L (.ref a :: S) (rz_mk h ι, w) = rg Z d rx_m107 22 L (rz_rv h a 0 :: S) (rz_mk h ι, w) := rz_gR rfl (by decide) c
theorem g107_22 : rg Z d rx_m107 22 L S (rz_mk h ι, w) = rg Z d rx_m107 24 L (.int 60 :: S) (rz_mk h ι, w) := rz_s1 fun _ => rfl
theorem g107_24 (c : rz_oc h a 9) : rg Z d rx_m107 24 L (v1 :: .ref a :: []) (rz_mk h ι, w) = rz_k true (rz_f Z d 99 [.ref a, v1] (rz_mk h ι, w)) (fun v σ' => rg Z d rx_m107 27 L (v.toList ++ []) σ') := rz_cv (pc := 24) (n := 1) (mi := 99) (S := v1 :: .ref a :: []) (rest := []) rfl rfl (Nat.le_of_ble_eq_true rfl) (Nat.le_of_ble_eq_true rfl) c
theorem g107_27 : rg Z d rx_m107 27 [some (.ref b), l1] (.int x :: S) (rz_mk h ι, w) = rg Z d rx_m107 28 [some (.ref b), some (.int x)] S (rz_mk h ι, w) := rz_s1 fun _ => rfl
theorem g107_28 : rg Z d rx_m107 28 [l0, some (.int x)] S (rz_mk h ι, w) = rg Z d rx_m107 29 [l0, some (.int x)] (.int x :: S) (rz_mk h ι, w) := rz_s1 fun _ => rfl
theorem g107_29 : rg Z d rx_m107 29 L S (rz_mk h ι, w) = rg Z d rx_m107 30 L (.int (-1) :: S) (rz_mk h ι, w) := rz_s1 fun _ => rfl
theorem g107_30 : rg Z d rx_m107 30 L (.int y :: .int x :: S) (rz_mk h ι, w) = if x = y then rg Z d rx_m107 45 L S (rz_mk h ι, w) else rg Z d rx_m107 33 L S (rz_mk h ι, w) := rz_if2 (pc := 30) (t := 45) (off := 15) (cc := .eq) (by decide) rfl
theorem g107_33 : rg Z d rx_m107 33 [some (.ref a), l1] S (rz_mk h ι, w) = rg Z d rx_m107 34 [some (.ref a), l1] (.ref a :: S) (rz_mk h ι, w) := rz_s1 fun _ => rfl
theorem g107_34 (c : rz_fR h a 10 0) : rg Z d rx_m107 34 L (.ref a :: S) (rz_mk h ι, w) = rg Z d rx_m107 37 L (rz_rv h a 0 :: S) (rz_mk h ι, w) := rz_gR rfl (by decide) c
theorem g107_37 : rg Z d rx_m107 37 L S (rz_mk h ι, w) = rg Z d rx_m107 39 L (.int 91 :: S) (rz_mk h ι, w) := rz_s1 fun _ => rfl
theorem g107_39 (c : rz_oc h a 9) : rg Z d rx_m107 39 L (v1 :: .ref a :: []) (rz_mk h ι, w) = rz_k true (rz_f Z d 96 [.ref a, v1] (rz_mk h ι, w)) (fun v σ' => rg Z d rx_m107 42 L (v.toList ++ []) σ') := rz_cv (pc := 39) (n := 1) (mi := 96) (S := v1 :: .ref a :: []) (rest := []) rfl rfl (Nat.le_of_ble_eq_true rfl) (Nat.le_of_ble_eq_true rfl) c
theorem g107_42 : rg Z d rx_m107 42 L (.int x :: S) (rz_mk h ι, w) = if x = 0 then rg Z d rx_m107 45 L S (rz_mk h ι, w) else rg Z d rx_m107 47 L S (rz_mk h ι, w) := rz_if1 (pc := 42) (t := 47) (off := 5) (cc := .ne) (by decide) rfl
theorem g107_45 : rg Z d rx_m107 45 L S (rz_mk h ι, w) = rg Z d rx_m107 46 L (.int 0 :: S) (rz_mk h ι, w) := rz_s1 fun _ => rfl
theorem g107_46 (c : narrow .boolean (.int x) = .int x) : rg Z d rx_m107 46 L [.int x] (rz_mk h ι, w) = some (.inl (some (.int x)), (rz_mk h ι, w)) := rz_reti rfl rfl c
theorem g107_47 : rg Z d rx_m107 47 [some (.ref a), l1] S (rz_mk h ι, w) = rg Z d rx_m107 48 [some (.ref a), l1] (.ref a :: S) (rz_mk h ι, w) := rz_s1 fun _ => rfl
theorem g107_48 (c : rz_fR h a 10 2) : rg Z d rx_m107 48 L (.ref a :: S) (rz_mk h ι, w) = rg Z d rx_m107 51 L (rz_rv h a 2 :: S) (rz_mk h ι, w) := rz_gR rfl (by decide) c
theorem g107_51 : rg Z d rx_m107 51 [some (.ref a), l1] S (rz_mk h ι, w) = rg Z d rx_m107 52 [some (.ref a), l1] (.ref a :: S) (rz_mk h ι, w) := rz_s1 fun _ => rfl
theorem g107_52 (c : rz_fI h a 10 5) : rg Z d rx_m107 52 L (.ref a :: S) (rz_mk h ι, w) = rg Z d rx_m107 55 L (.int (ι a 5) :: S) (rz_mk h ι, w) := rz_gI rfl (by decide) c
theorem g107_55 : rg Z d rx_m107 55 [some (.ref a), l1] S (rz_mk h ι, w) = rg Z d rx_m107 56 [some (.ref a), l1] (.ref a :: S) (rz_mk h ι, w) := rz_s1 fun _ => rfl
theorem g107_56 (c : rz_fI h a 10 4) : rg Z d rx_m107 56 L (.ref a :: S) (rz_mk h ι, w) = rg Z d rx_m107 59 L (.int (ι a 4) :: S) (rz_mk h ι, w) := rz_gI rfl (by decide) c
theorem g107_59 (c : rz_ar h a 0) (hi : rz_ix x (rz_ln h a)) (hz : Z.2.1 ≤ a) : rg Z d rx_m107 59 L (.int y :: .int x :: .ref a :: S) (rz_mk h ι, w) = rg Z d rx_m107 60 L S (rz_mk h (rz_up ι a x.toNatClampNeg y), w) := rz_iast rfl c hi hz
theorem g107_60 : rg Z d rx_m107 60 [some (.ref a), l1] S (rz_mk h ι, w) = rg Z d rx_m107 61 [some (.ref a), l1] (.ref a :: S) (rz_mk h ι, w) := rz_s1 fun _ => rfl
theorem g107_61 : rg Z d rx_m107 61 L (.ref a :: S) (rz_mk h ι, w) = rg Z d rx_m107 62 L (.ref a :: .ref a :: S) (rz_mk h ι, w) := rz_s1 fun _ => rfl
theorem g107_62 (c : rz_fI h a 10 5) : rg Z d rx_m107 62 L (.ref a :: S) (rz_mk h ι, w) = rg Z d rx_m107 65 L (.int (ι a 5) :: S) (rz_mk h ι, w) := rz_gI rfl (by decide) c
theorem g107_65 : rg Z d rx_m107 65 L S (rz_mk h ι, w) = rg Z d rx_m107 66 L (.int 1 :: S) (rz_mk h ι, w) := rz_s1 fun _ => rfl
theorem g107_66 : rg Z d rx_m107 66 L (.int y :: .int x :: S) (rz_mk h ι, w) = rg Z d rx_m107 67 L (.int (x + y) :: S) (rz_mk h ι, w) := rz_s1 fun _ => rfl
theorem g107_67 (c : rz_fI h a 10 5) (hz : Z.2.1 ≤ a) : rg Z d rx_m107 67 L (.int x :: .ref a :: S) (rz_mk h ι, w) = rg Z d rx_m107 70 L S (rz_mk h (rz_up ι a 5 x), w) := rz_pI rfl c hz
theorem g107_70 : rg Z d rx_m107 70 [some (.ref a), l1] S (rz_mk h ι, w) = rg Z d rx_m107 71 [some (.ref a), l1] (.ref a :: S) (rz_mk h ι, w) := rz_s1 fun _ => rfl
theorem g107_71 : rg Z d rx_m107 71 L S (rz_mk h ι, w) = rg Z d rx_m107 72 L (.int 5 :: S) (rz_mk h ι, w) := rz_s1 fun _ => rfl
theorem g107_72 : rg Z d rx_m107 72 [l0, some (.int x)] S (rz_mk h ι, w) = rg Z d rx_m107 73 [l0, some (.int x)] (.int x :: S) (rz_mk h ι, w) := rz_s1 fun _ => rfl
theorem g107_73 : rg Z d rx_m107 73 L S (rz_mk h ι, w) = rg Z d rx_m107 74 L (.int 0 :: S) (rz_mk h ι, w) := rz_s1 fun _ => rfl
theorem g107_74 : rg Z d rx_m107 74 L S (rz_mk h ι, w) = rg Z d rx_m107 75 L (.int 0 :: S) (rz_mk h ι, w) := rz_s1 fun _ => rfl
theorem g107_75 (c : rz_oc h a 10) : rg Z d rx_m107 75 L (v4 :: v3 :: v2 :: v1 :: .ref a :: []) (rz_mk h ι, w) = rz_k true (rz_f Z d 111 [.ref a, v1, v2, v3, v4] (rz_mk h ι, w)) (fun v σ' => rg Z d rx_m107 78 L (v.toList ++ []) σ') := rz_cv (pc := 75) (n := 4) (mi := 111) (S := v4 :: v3 :: v2 :: v1 :: .ref a :: []) (rest := []) rfl rfl (Nat.le_of_ble_eq_true rfl) (Nat.le_of_ble_eq_true rfl) c
theorem g107_78 (c : narrow .boolean (.int x) = .int x) : rg Z d rx_m107 78 L [.int x] (rz_mk h ι, w) = some (.inl (some (.int x)), (rz_mk h ι, w)) := rz_reti rfl rfl c
theorem e107 : rz_f Z (d + 1) 107 [.ref t0] σ = rg Z d rx_m107 0 [some (.ref t0), none] [] σ := rz_f_eq rfl (Nat.le_of_ble_eq_true rfl)
theorem g108_0 : rg Z d rx_m108 0 [some (.ref a), l1, l2, l3] S (rz_mk h ι, w) = rg Z d rx_m108 1 [some (.ref a), l1, l2, l3] (.ref a :: S) (rz_mk h ι, w) := rz_s1 fun _ => rfl
theorem g108_1 (c : rz_fR h a 10 0) : rg Z d rx_m108 1 L (.ref a :: S) (rz_mk h ι, w) = rg Z d rx_m108 4 L (rz_rv h a 0 :: S) (rz_mk h ι, w) := rz_gR rfl (by decide) c
theorem g108_4 : rg Z d rx_m108 4 L S (rz_mk h ι, w) = rg Z d rx_m108 6 L (.int 7 :: S) (rz_mk h ι, w) := rz_s1 fun _ => rfl
theorem g108_6 (c : rz_oc h a 9) : rg Z d rx_m108 6 L (v1 :: .ref a :: []) (rz_mk h ι, w) = rz_k true (rz_f Z d 99 [.ref a, v1] (rz_mk h ι, w)) (fun v σ' => rg Z d rx_m108 9 L (v.toList ++ []) σ') := rz_cv (pc := 6) (n := 1) (mi := 99) (S := v1 :: .ref a :: []) (rest := []) rfl rfl (Nat.le_of_ble_eq_true rfl) (Nat.le_of_ble_eq_true rfl) c
theorem g108_9 : rg Z d rx_m108 9 [some (.ref b), l1, l2, l3] (.int x :: S) (rz_mk h ι, w) = rg Z d rx_m108 10 [some (.ref b), some (.int x), l2, l3] S (rz_mk h ι, w) := rz_s1 fun _ => rfl
theorem g108_10 : rg Z d rx_m108 10 [l0, some (.int x), l2, l3] S (rz_mk h ι, w) = rg Z d rx_m108 11 [l0, some (.int x), l2, l3] (.int x :: S) (rz_mk h ι, w) := rz_s1 fun _ => rfl
theorem g108_11 : rg Z d rx_m108 11 L S (rz_mk h ι, w) = rg Z d rx_m108 12 L (.int (-1) :: S) (rz_mk h ι, w) := rz_s1 fun _ => rfl
theorem g108_12 : rg Z d rx_m108 12 L (.int y :: .int x :: S) (rz_mk h ι, w) = if x = y then rg Z d rx_m108 15 L S (rz_mk h ι, w) else rg Z d rx_m108 19 L S (rz_mk h ι, w) := rz_if2 (pc := 12) (t := 19) (off := 7) (cc := .ne) (by decide) rfl
theorem g108_15 : rg Z d rx_m108 15 L S (rz_mk h ι, w) = rg Z d rx_m108 16 L (.int (-1) :: S) (rz_mk h ι, w) := rz_s1 fun _ => rfl
theorem g108_16 : rg Z d rx_m108 16 L S (rz_mk h ι, w) = rg Z d rx_m108 27 L S (rz_mk h ι, w) := rz_s1 fun _ => rfl
theorem g108_19 : rg Z d rx_m108 19 [some (.ref a), l1, l2, l3] S (rz_mk h ι, w) = rg Z d rx_m108 20 [some (.ref a), l1, l2, l3] (.ref a :: S) (rz_mk h ι, w) := rz_s1 fun _ => rfl
theorem g108_20 (c : rz_fR h a 10 0) : rg Z d rx_m108 20 L (.ref a :: S) (rz_mk h ι, w) = rg Z d rx_m108 23 L (rz_rv h a 0 :: S) (rz_mk h ι, w) := rz_gR rfl (by decide) c
theorem g108_23 : rg Z d rx_m108 23 L S (rz_mk h ι, w) = rg Z d rx_m108 24 L (.int 2 :: S) (rz_mk h ι, w) := rz_s1 fun _ => rfl
theorem g108_24 (c : rz_oc h a 9) : rg Z d rx_m108 24 L (v1 :: .ref a :: []) (rz_mk h ι, w) = rz_k true (rz_f Z d 99 [.ref a, v1] (rz_mk h ι, w)) (fun v σ' => rg Z d rx_m108 27 L (v.toList ++ []) σ') := rz_cv (pc := 24) (n := 1) (mi := 99) (S := v1 :: .ref a :: []) (rest := []) rfl rfl (Nat.le_of_ble_eq_true rfl) (Nat.le_of_ble_eq_true rfl) c
theorem g108_27 : rg Z d rx_m108 27 [l0, some (.int z), l2, l3] (.int x :: S) (rz_mk h ι, w) = rg Z d rx_m108 28 [l0, some (.int z), some (.int x), l3] S (rz_mk h ι, w) := rz_s1 fun _ => rfl
theorem g108_28 : rg Z d rx_m108 28 [l0, l1, some (.int x), l3] S (rz_mk h ι, w) = rg Z d rx_m108 29 [l0, l1, some (.int x), l3] (.int x :: S) (rz_mk h ι, w) := rz_s1 fun _ => rfl
theorem g108_29 : rg Z d rx_m108 29 L S (rz_mk h ι, w) = rg Z d rx_m108 30 L (.int (-1) :: S) (rz_mk h ι, w) := rz_s1 fun _ => rfl
theorem g108_30 : rg Z d rx_m108 30 L (.int y :: .int x :: S) (rz_mk h ι, w) = if x = y then rg Z d rx_m108 33 L S (rz_mk h ι, w) else rg Z d rx_m108 37 L S (rz_mk h ι, w) := rz_if2 (pc := 30) (t := 37) (off := 7) (cc := .ne) (by decide) rfl
theorem g108_33 : rg Z d rx_m108 33 L S (rz_mk h ι, w) = rg Z d rx_m108 34 L (.int (-1) :: S) (rz_mk h ι, w) := rz_s1 fun _ => rfl
theorem g108_34 : rg Z d rx_m108 34 L S (rz_mk h ι, w) = rg Z d rx_m108 46 L S (rz_mk h ι, w) := rz_s1 fun _ => rfl
theorem g108_37 : rg Z d rx_m108 37 [some (.ref a), l1, l2, l3] S (rz_mk h ι, w) = rg Z d rx_m108 38 [some (.ref a), l1, l2, l3] (.ref a :: S) (rz_mk h ι, w) := rz_s1 fun _ => rfl
theorem g108_38 (c : rz_fR h a 10 0) : rg Z d rx_m108 38 L (.ref a :: S) (rz_mk h ι, w) = rg Z d rx_m108 41 L (rz_rv h a 0 :: S) (rz_mk h ι, w) := rz_gR rfl (by decide) c
theorem g108_41 : rg Z d rx_m108 41 L S (rz_mk h ι, w) = rg Z d rx_m108 43 L (.int 9 :: S) (rz_mk h ι, w) := rz_s1 fun _ => rfl
theorem g108_43 (c : rz_oc h a 9) : rg Z d rx_m108 43 L (v1 :: .ref a :: []) (rz_mk h ι, w) = rz_k true (rz_f Z d 99 [.ref a, v1] (rz_mk h ι, w)) (fun v σ' => rg Z d rx_m108 46 L (v.toList ++ []) σ') := rz_cv (pc := 43) (n := 1) (mi := 99) (S := v1 :: .ref a :: []) (rest := []) rfl rfl (Nat.le_of_ble_eq_true rfl) (Nat.le_of_ble_eq_true rfl) c
theorem g108_46 : rg Z d rx_m108 46 [l0, l1, some (.int z), l3] (.int x :: S) (rz_mk h ι, w) = rg Z d rx_m108 47 [l0, l1, some (.int z), some (.int x)] S (rz_mk h ι, w) := rz_s1 fun _ => rfl
theorem g108_47 : rg Z d rx_m108 47 [l0, l1, l2, some (.int x)] S (rz_mk h ι, w) = rg Z d rx_m108 48 [l0, l1, l2, some (.int x)] (.int x :: S) (rz_mk h ι, w) := rz_s1 fun _ => rfl
theorem g108_48 : rg Z d rx_m108 48 L S (rz_mk h ι, w) = rg Z d rx_m108 49 L (.int (-1) :: S) (rz_mk h ι, w) := rz_s1 fun _ => rfl
theorem g108_49 : rg Z d rx_m108 49 L (.int y :: .int x :: S) (rz_mk h ι, w) = if x = y then rg Z d rx_m108 67 L S (rz_mk h ι, w) else rg Z d rx_m108 52 L S (rz_mk h ι, w) := rz_if2 (pc := 49) (t := 67) (off := 18) (cc := .eq) (by decide) rfl
theorem g108_52 : rg Z d rx_m108 52 [some (.ref a), l1, l2, l3] S (rz_mk h ι, w) = rg Z d rx_m108 53 [some (.ref a), l1, l2, l3] (.ref a :: S) (rz_mk h ι, w) := rz_s1 fun _ => rfl
theorem g108_53 : rg Z d rx_m108 53 L S (rz_mk h ι, w) = rg Z d rx_m108 54 L (.int 0 :: S) (rz_mk h ι, w) := rz_s1 fun _ => rfl
theorem g108_54 : rg Z d rx_m108 54 [l0, some (.int x), l2, l3] S (rz_mk h ι, w) = rg Z d rx_m108 55 [l0, some (.int x), l2, l3] (.int x :: S) (rz_mk h ι, w) := rz_s1 fun _ => rfl
theorem g108_55 : rg Z d rx_m108 55 [l0, l1, some (.int x), l3] S (rz_mk h ι, w) = rg Z d rx_m108 56 [l0, l1, some (.int x), l3] (.int x :: S) (rz_mk h ι, w) := rz_s1 fun _ => rfl
theorem g108_56 : rg Z d rx_m108 56 [l0, l1, l2, some (.int x)] S (rz_mk h ι, w) = rg Z d rx_m108 57 [l0, l1, l2, some (.int x)] (.int x :: S) (rz_mk h ι, w) := rz_s1 fun _ => rfl
theorem g108_57 (c : rz_oc h a 10) : rg Z d rx_m108 57 L (v4 :: v3 :: v2 :: v1 :: .ref a :: []) (rz_mk h ι, w) = rz_k true (rz_f Z d 111 [.ref a, v1, v2, v3, v4] (rz_mk h ι, w)) (fun v σ' => rg Z d rx_m108 60 L (v.toList ++ []) σ') := rz_cv (pc := 57) (n := 4) (mi := 111) (S := v4 :: v3 :: v2 :: v1 :: .ref a :: []) (rest := []) rfl rfl (Nat.le_of_ble_eq_true rfl) (Nat.le_of_ble_eq_true rfl) c
theorem g108_60 : rg Z d rx_m108 60 L (.int x :: S) (rz_mk h ι, w) = if x = 0 then rg Z d rx_m108 67 L S (rz_mk h ι, w) else rg Z d rx_m108 63 L S (rz_mk h ι, w) := rz_if1 (pc := 60) (t := 67) (off := 7) (cc := .eq) (by decide) rfl
theorem g108_63 : rg Z d rx_m108 63 L S (rz_mk h ι, w) = rg Z d rx_m108 64 L (.int 1 :: S) (rz_mk h ι, w) := rz_s1 fun _ => rfl
theorem g108_64 : rg Z d rx_m108 64 L S (rz_mk h ι, w) = rg Z d rx_m108 68 L S (rz_mk h ι, w) := rz_s1 fun _ => rfl
theorem g108_67 : rg Z d rx_m108 67 L S (rz_mk h ι, w) = rg Z d rx_m108 68 L (.int 0 :: S) (rz_mk h ι, w) := rz_s1 fun _ => rfl
theorem g108_68 (c : narrow .boolean (.int x) = .int x) : rg Z d rx_m108 68 L [.int x] (rz_mk h ι, w) = some (.inl (some (.int x)), (rz_mk h ι, w)) := rz_reti rfl rfl c
theorem e108 : rz_f Z (d + 1) 108 [.ref t0] σ = rg Z d rx_m108 0 [some (.ref t0), none, none, none] [] σ := rz_f_eq rfl (Nat.le_of_ble_eq_true rfl)
theorem g109_0 : rg Z d rx_m109 0 [some (.ref a), l1, l2] S (rz_mk h ι, w) = rg Z d rx_m109 1 [some (.ref a), l1, l2] (.ref a :: S) (rz_mk h ι, w) := rz_s1 fun _ => rfl
theorem g109_1 (c : rz_fR h a 10 0) : rg Z d rx_m109 1 L (.ref a :: S) (rz_mk h ι, w) = rg Z d rx_m109 4 L (rz_rv h a 0 :: S) (rz_mk h ι, w) := rz_gR rfl (by decide) c
theorem g109_4 : rg Z d rx_m109 4 L S (rz_mk h ι, w) = rg Z d rx_m109 6 L (.int 7 :: S) (rz_mk h ι, w) := rz_s1 fun _ => rfl
theorem g109_6 (c : rz_oc h a 9) : rg Z d rx_m109 6 L (v1 :: .ref a :: []) (rz_mk h ι, w) = rz_k true (rz_f Z d 99 [.ref a, v1] (rz_mk h ι, w)) (fun v σ' => rg Z d rx_m109 9 L (v.toList ++ []) σ') := rz_cv (pc := 6) (n := 1) (mi := 99) (S := v1 :: .ref a :: []) (rest := []) rfl rfl (Nat.le_of_ble_eq_true rfl) (Nat.le_of_ble_eq_true rfl) c
theorem g109_9 : rg Z d rx_m109 9 [some (.ref b), l1, l2] (.int x :: S) (rz_mk h ι, w) = rg Z d rx_m109 10 [some (.ref b), some (.int x), l2] S (rz_mk h ι, w) := rz_s1 fun _ => rfl
theorem g109_10 : rg Z d rx_m109 10 [l0, some (.int x), l2] S (rz_mk h ι, w) = rg Z d rx_m109 11 [l0, some (.int x), l2] (.int x :: S) (rz_mk h ι, w) := rz_s1 fun _ => rfl
theorem g109_11 : rg Z d rx_m109 11 L S (rz_mk h ι, w) = rg Z d rx_m109 12 L (.int (-1) :: S) (rz_mk h ι, w) := rz_s1 fun _ => rfl
theorem g109_12 : rg Z d rx_m109 12 L (.int y :: .int x :: S) (rz_mk h ι, w) = if x = y then rg Z d rx_m109 15 L S (rz_mk h ι, w) else rg Z d rx_m109 19 L S (rz_mk h ι, w) := rz_if2 (pc := 12) (t := 19) (off := 7) (cc := .ne) (by decide) rfl
theorem g109_15 : rg Z d rx_m109 15 L S (rz_mk h ι, w) = rg Z d rx_m109 16 L (.int (-1) :: S) (rz_mk h ι, w) := rz_s1 fun _ => rfl
theorem g109_16 : rg Z d rx_m109 16 L S (rz_mk h ι, w) = rg Z d rx_m109 28 L S (rz_mk h ι, w) := rz_s1 fun _ => rfl
theorem g109_19 : rg Z d rx_m109 19 [some (.ref a), l1, l2] S (rz_mk h ι, w) = rg Z d rx_m109 20 [some (.ref a), l1, l2] (.ref a :: S) (rz_mk h ι, w) := rz_s1 fun _ => rfl
theorem g109_20 (c : rz_fR h a 10 0) : rg Z d rx_m109 20 L (.ref a :: S) (rz_mk h ι, w) = rg Z d rx_m109 23 L (rz_rv h a 0 :: S) (rz_mk h ι, w) := rz_gR rfl (by decide) c
theorem g109_23 : rg Z d rx_m109 23 L S (rz_mk h ι, w) = rg Z d rx_m109 25 L (.int 7 :: S) (rz_mk h ι, w) := rz_s1 fun _ => rfl
theorem g109_25 (c : rz_oc h a 9) : rg Z d rx_m109 25 L (v1 :: .ref a :: []) (rz_mk h ι, w) = rz_k true (rz_f Z d 99 [.ref a, v1] (rz_mk h ι, w)) (fun v σ' => rg Z d rx_m109 28 L (v.toList ++ []) σ') := rz_cv (pc := 25) (n := 1) (mi := 99) (S := v1 :: .ref a :: []) (rest := []) rfl rfl (Nat.le_of_ble_eq_true rfl) (Nat.le_of_ble_eq_true rfl) c
theorem g109_28 : rg Z d rx_m109 28 [l0, some (.int z), l2] (.int x :: S) (rz_mk h ι, w) = rg Z d rx_m109 29 [l0, some (.int z), some (.int x)] S (rz_mk h ι, w) := rz_s1 fun _ => rfl
theorem g109_29 : rg Z d rx_m109 29 [l0, l1, some (.int x)] S (rz_mk h ι, w) = rg Z d rx_m109 30 [l0, l1, some (.int x)] (.int x :: S) (rz_mk h ι, w) := rz_s1 fun _ => rfl
theorem g109_30 : rg Z d rx_m109 30 L S (rz_mk h ι, w) = rg Z d rx_m109 31 L (.int (-1) :: S) (rz_mk h ι, w) := rz_s1 fun _ => rfl
theorem g109_31 : rg Z d rx_m109 31 L (.int y :: .int x :: S) (rz_mk h ι, w) = if x = y then rg Z d rx_m109 49 L S (rz_mk h ι, w) else rg Z d rx_m109 34 L S (rz_mk h ι, w) := rz_if2 (pc := 31) (t := 49) (off := 18) (cc := .eq) (by decide) rfl
theorem g109_34 : rg Z d rx_m109 34 [some (.ref a), l1, l2] S (rz_mk h ι, w) = rg Z d rx_m109 35 [some (.ref a), l1, l2] (.ref a :: S) (rz_mk h ι, w) := rz_s1 fun _ => rfl
theorem g109_35 : rg Z d rx_m109 35 L S (rz_mk h ι, w) = rg Z d rx_m109 36 L (.int 2 :: S) (rz_mk h ι, w) := rz_s1 fun _ => rfl
theorem g109_36 : rg Z d rx_m109 36 [l0, some (.int x), l2] S (rz_mk h ι, w) = rg Z d rx_m109 37 [l0, some (.int x), l2] (.int x :: S) (rz_mk h ι, w) := rz_s1 fun _ => rfl
theorem g109_37 : rg Z d rx_m109 37 [l0, l1, some (.int x)] S (rz_mk h ι, w) = rg Z d rx_m109 38 [l0, l1, some (.int x)] (.int x :: S) (rz_mk h ι, w) := rz_s1 fun _ => rfl
theorem g109_38 : rg Z d rx_m109 38 L S (rz_mk h ι, w) = rg Z d rx_m109 39 L (.int 0 :: S) (rz_mk h ι, w) := rz_s1 fun _ => rfl
theorem g109_39 (c : rz_oc h a 10) : rg Z d rx_m109 39 L (v4 :: v3 :: v2 :: v1 :: .ref a :: []) (rz_mk h ι, w) = rz_k true (rz_f Z d 111 [.ref a, v1, v2, v3, v4] (rz_mk h ι, w)) (fun v σ' => rg Z d rx_m109 42 L (v.toList ++ []) σ') := rz_cv (pc := 39) (n := 4) (mi := 111) (S := v4 :: v3 :: v2 :: v1 :: .ref a :: []) (rest := []) rfl rfl (Nat.le_of_ble_eq_true rfl) (Nat.le_of_ble_eq_true rfl) c
theorem g109_42 : rg Z d rx_m109 42 L (.int x :: S) (rz_mk h ι, w) = if x = 0 then rg Z d rx_m109 49 L S (rz_mk h ι, w) else rg Z d rx_m109 45 L S (rz_mk h ι, w) := rz_if1 (pc := 42) (t := 49) (off := 7) (cc := .eq) (by decide) rfl
theorem g109_45 : rg Z d rx_m109 45 L S (rz_mk h ι, w) = rg Z d rx_m109 46 L (.int 1 :: S) (rz_mk h ι, w) := rz_s1 fun _ => rfl
theorem g109_46 : rg Z d rx_m109 46 L S (rz_mk h ι, w) = rg Z d rx_m109 50 L S (rz_mk h ι, w) := rz_s1 fun _ => rfl
theorem g109_49 : rg Z d rx_m109 49 L S (rz_mk h ι, w) = rg Z d rx_m109 50 L (.int 0 :: S) (rz_mk h ι, w) := rz_s1 fun _ => rfl
theorem g109_50 (c : narrow .boolean (.int x) = .int x) : rg Z d rx_m109 50 L [.int x] (rz_mk h ι, w) = some (.inl (some (.int x)), (rz_mk h ι, w)) := rz_reti rfl rfl c
theorem e109 : rz_f Z (d + 1) 109 [.ref t0] σ = rg Z d rx_m109 0 [some (.ref t0), none, none] [] σ := rz_f_eq rfl (Nat.le_of_ble_eq_true rfl)
theorem g110_0 : rg Z d rx_m110 0 [some (.ref a), l1, l2] S (rz_mk h ι, w) = rg Z d rx_m110 1 [some (.ref a), l1, l2] (.ref a :: S) (rz_mk h ι, w) := rz_s1 fun _ => rfl
theorem g110_1 (c : rz_fR h a 10 0) : rg Z d rx_m110 1 L (.ref a :: S) (rz_mk h ι, w) = rg Z d rx_m110 4 L (rz_rv h a 0 :: S) (rz_mk h ι, w) := rz_gR rfl (by decide) c
theorem g110_4 : rg Z d rx_m110 4 L S (rz_mk h ι, w) = rg Z d rx_m110 6 L (.int 7 :: S) (rz_mk h ι, w) := rz_s1 fun _ => rfl
theorem g110_6 (c : rz_oc h a 9) : rg Z d rx_m110 6 L (v1 :: .ref a :: []) (rz_mk h ι, w) = rz_k true (rz_f Z d 99 [.ref a, v1] (rz_mk h ι, w)) (fun v σ' => rg Z d rx_m110 9 L (v.toList ++ []) σ') := rz_cv (pc := 6) (n := 1) (mi := 99) (S := v1 :: .ref a :: []) (rest := []) rfl rfl (Nat.le_of_ble_eq_true rfl) (Nat.le_of_ble_eq_true rfl) c
theorem g110_9 : rg Z d rx_m110 9 [l0, some (.int z), l2] (.int x :: S) (rz_mk h ι, w) = rg Z d rx_m110 10 [l0, some (.int z), some (.int x)] S (rz_mk h ι, w) := rz_s1 fun _ => rfl
theorem g110_10 : rg Z d rx_m110 10 [l0, l1, some (.int x)] S (rz_mk h ι, w) = rg Z d rx_m110 11 [l0, l1, some (.int x)] (.int x :: S) (rz_mk h ι, w) := rz_s1 fun _ => rfl
theorem g110_11 : rg Z d rx_m110 11 L S (rz_mk h ι, w) = rg Z d rx_m110 12 L (.int (-1) :: S) (rz_mk h ι, w) := rz_s1 fun _ => rfl
theorem g110_12 : rg Z d rx_m110 12 L (.int y :: .int x :: S) (rz_mk h ι, w) = if x = y then rg Z d rx_m110 30 L S (rz_mk h ι, w) else rg Z d rx_m110 15 L S (rz_mk h ι, w) := rz_if2 (pc := 12) (t := 30) (off := 18) (cc := .eq) (by decide) rfl
theorem g110_15 : rg Z d rx_m110 15 [some (.ref a), l1, l2] S (rz_mk h ι, w) = rg Z d rx_m110 16 [some (.ref a), l1, l2] (.ref a :: S) (rz_mk h ι, w) := rz_s1 fun _ => rfl
theorem g110_16 : rg Z d rx_m110 16 [l0, some (.int x), l2] S (rz_mk h ι, w) = rg Z d rx_m110 17 [l0, some (.int x), l2] (.int x :: S) (rz_mk h ι, w) := rz_s1 fun _ => rfl
theorem g110_17 : rg Z d rx_m110 17 [l0, l1, some (.int x)] S (rz_mk h ι, w) = rg Z d rx_m110 18 [l0, l1, some (.int x)] (.int x :: S) (rz_mk h ι, w) := rz_s1 fun _ => rfl
theorem g110_18 : rg Z d rx_m110 18 L S (rz_mk h ι, w) = rg Z d rx_m110 19 L (.int 0 :: S) (rz_mk h ι, w) := rz_s1 fun _ => rfl
theorem g110_19 : rg Z d rx_m110 19 L S (rz_mk h ι, w) = rg Z d rx_m110 20 L (.int 0 :: S) (rz_mk h ι, w) := rz_s1 fun _ => rfl
theorem g110_20 (c : rz_oc h a 10) : rg Z d rx_m110 20 L (v4 :: v3 :: v2 :: v1 :: .ref a :: []) (rz_mk h ι, w) = rz_k true (rz_f Z d 111 [.ref a, v1, v2, v3, v4] (rz_mk h ι, w)) (fun v σ' => rg Z d rx_m110 23 L (v.toList ++ []) σ') := rz_cv (pc := 20) (n := 4) (mi := 111) (S := v4 :: v3 :: v2 :: v1 :: .ref a :: []) (rest := []) rfl rfl (Nat.le_of_ble_eq_true rfl) (Nat.le_of_ble_eq_true rfl) c
theorem g110_23 : rg Z d rx_m110 23 L (.int x :: S) (rz_mk h ι, w) = if x = 0 then rg Z d rx_m110 30 L S (rz_mk h ι, w) else rg Z d rx_m110 26 L S (rz_mk h ι, w) := rz_if1 (pc := 23) (t := 30) (off := 7) (cc := .eq) (by decide) rfl
theorem g110_26 : rg Z d rx_m110 26 L S (rz_mk h ι, w) = rg Z d rx_m110 27 L (.int 1 :: S) (rz_mk h ι, w) := rz_s1 fun _ => rfl
theorem g110_27 : rg Z d rx_m110 27 L S (rz_mk h ι, w) = rg Z d rx_m110 31 L S (rz_mk h ι, w) := rz_s1 fun _ => rfl
theorem g110_30 : rg Z d rx_m110 30 L S (rz_mk h ι, w) = rg Z d rx_m110 31 L (.int 0 :: S) (rz_mk h ι, w) := rz_s1 fun _ => rfl
theorem g110_31 (c : narrow .boolean (.int x) = .int x) : rg Z d rx_m110 31 L [.int x] (rz_mk h ι, w) = some (.inl (some (.int x)), (rz_mk h ι, w)) := rz_reti rfl rfl c
theorem e110 : rz_f Z (d + 1) 110 [.ref t0, .int s1] σ = rg Z d rx_m110 0 [some (.ref t0), some (.int s1), none] [] σ := rz_f_eq rfl (Nat.le_of_ble_eq_true rfl)
theorem g111_0 : rg Z d rx_m111 0 [some (.ref a), l1, l2, l3, l4, l5] S (rz_mk h ι, w) = rg Z d rx_m111 1 [some (.ref a), l1, l2, l3, l4, l5] (.ref a :: S) (rz_mk h ι, w) := rz_s1 fun _ => rfl
theorem g111_1 (c : rz_fI h a 10 4) : rg Z d rx_m111 1 L (.ref a :: S) (rz_mk h ι, w) = rg Z d rx_m111 4 L (.int (ι a 4) :: S) (rz_mk h ι, w) := rz_gI rfl (by decide) c
theorem g111_4 : rg Z d rx_m111 4 [l0, l1, l2, l3, some (.int z), l5] (.int x :: S) (rz_mk h ι, w) = rg Z d rx_m111 6 [l0, l1, l2, l3, some (.int z), some (.int x)] S (rz_mk h ι, w) := rz_s1 fun _ => rfl
theorem g111_6 : rg Z d rx_m111 6 [some (.ref a), l1, l2, l3, l4, l5] S (rz_mk h ι, w) = rg Z d rx_m111 7 [some (.ref a), l1, l2, l3, l4, l5] (.ref a :: S) (rz_mk h ι, w) := rz_s1 fun _ => rfl
theorem g111_7 : rg Z d rx_m111 7 L (.ref a :: S) (rz_mk h ι, w) = rg Z d rx_m111 8 L (.ref a :: .ref a :: S) (rz_mk h ι, w) := rz_s1 fun _ => rfl
theorem g111_8 (c : rz_fI h a 10 4) : rg Z d rx_m111 8 L (.ref a :: S) (rz_mk h ι, w) = rg Z d rx_m111 11 L (.int (ι a 4) :: S) (rz_mk h ι, w) := rz_gI rfl (by decide) c
theorem g111_11 : rg Z d rx_m111 11 L S (rz_mk h ι, w) = rg Z d rx_m111 12 L (.int 1 :: S) (rz_mk h ι, w) := rz_s1 fun _ => rfl
theorem g111_12 : rg Z d rx_m111 12 L (.int y :: .int x :: S) (rz_mk h ι, w) = rg Z d rx_m111 13 L (.int (x + y) :: S) (rz_mk h ι, w) := rz_s1 fun _ => rfl
theorem g111_13 (c : rz_fI h a 10 4) (hz : Z.2.1 ≤ a) : rg Z d rx_m111 13 L (.int x :: .ref a :: S) (rz_mk h ι, w) = rg Z d rx_m111 16 L S (rz_mk h (rz_up ι a 4 x), w) := rz_pI rfl c hz
theorem g111_16 : rg Z d rx_m111 16 [some (.ref a), l1, l2, l3, l4, l5] S (rz_mk h ι, w) = rg Z d rx_m111 17 [some (.ref a), l1, l2, l3, l4, l5] (.ref a :: S) (rz_mk h ι, w) := rz_s1 fun _ => rfl
theorem g111_17 : rg Z d rx_m111 17 [l0, l1, l2, l3, l4, some (.int x)] S (rz_mk h ι, w) = rg Z d rx_m111 19 [l0, l1, l2, l3, l4, some (.int x)] (.int x :: S) (rz_mk h ι, w) := rz_s1 fun _ => rfl
theorem g111_19 : rg Z d rx_m111 19 L S (rz_mk h ι, w) = rg Z d rx_m111 20 L (.int 0 :: S) (rz_mk h ι, w) := rz_s1 fun _ => rfl
theorem g111_20 : rg Z d rx_m111 20 [l0, some (.int x), l2, l3, l4, l5] S (rz_mk h ι, w) = rg Z d rx_m111 21 [l0, some (.int x), l2, l3, l4, l5] (.int x :: S) (rz_mk h ι, w) := rz_s1 fun _ => rfl
theorem g111_21 (c : rz_oc h a 10) : rg Z d rx_m111 21 L (v3 :: v2 :: v1 :: .ref a :: []) (rz_mk h ι, w) = rz_k true (rz_f Z d 112 [.ref a, v1, v2, v3] (rz_mk h ι, w)) (fun v σ' => rg Z d rx_m111 24 L (v.toList ++ []) σ') := rz_cv (pc := 21) (n := 3) (mi := 112) (S := v3 :: v2 :: v1 :: .ref a :: []) (rest := []) rfl rfl (Nat.le_of_ble_eq_true rfl) (Nat.le_of_ble_eq_true rfl) c
theorem g111_24 : rg Z d rx_m111 24 [some (.ref a), l1, l2, l3, l4, l5] S (rz_mk h ι, w) = rg Z d rx_m111 25 [some (.ref a), l1, l2, l3, l4, l5] (.ref a :: S) (rz_mk h ι, w) := rz_s1 fun _ => rfl
theorem g111_25 : rg Z d rx_m111 25 [l0, l1, l2, l3, l4, some (.int x)] S (rz_mk h ι, w) = rg Z d rx_m111 27 [l0, l1, l2, l3, l4, some (.int x)] (.int x :: S) (rz_mk h ι, w) := rz_s1 fun _ => rfl
theorem g111_27 : rg Z d rx_m111 27 L S (rz_mk h ι, w) = rg Z d rx_m111 28 L (.int 1 :: S) (rz_mk h ι, w) := rz_s1 fun _ => rfl
theorem g111_28 : rg Z d rx_m111 28 [l0, l1, some (.int x), l3, l4, l5] S (rz_mk h ι, w) = rg Z d rx_m111 29 [l0, l1, some (.int x), l3, l4, l5] (.int x :: S) (rz_mk h ι, w) := rz_s1 fun _ => rfl
theorem g111_29 (c : rz_oc h a 10) : rg Z d rx_m111 29 L (v3 :: v2 :: v1 :: .ref a :: []) (rz_mk h ι, w) = rz_k true (rz_f Z d 112 [.ref a, v1, v2, v3] (rz_mk h ι, w)) (fun v σ' => rg Z d rx_m111 32 L (v.toList ++ []) σ') := rz_cv (pc := 29) (n := 3) (mi := 112) (S := v3 :: v2 :: v1 :: .ref a :: []) (rest := []) rfl rfl (Nat.le_of_ble_eq_true rfl) (Nat.le_of_ble_eq_true rfl) c
theorem g111_32 : rg Z d rx_m111 32 [some (.ref a), l1, l2, l3, l4, l5] S (rz_mk h ι, w) = rg Z d rx_m111 33 [some (.ref a), l1, l2, l3, l4, l5] (.ref a :: S) (rz_mk h ι, w) := rz_s1 fun _ => rfl
theorem g111_33 : rg Z d rx_m111 33 [l0, l1, l2, l3, l4, some (.int x)] S (rz_mk h ι, w) = rg Z d rx_m111 35 [l0, l1, l2, l3, l4, some (.int x)] (.int x :: S) (rz_mk h ι, w) := rz_s1 fun _ => rfl
theorem g111_35 : rg Z d rx_m111 35 L S (rz_mk h ι, w) = rg Z d rx_m111 36 L (.int 2 :: S) (rz_mk h ι, w) := rz_s1 fun _ => rfl
theorem g111_36 : rg Z d rx_m111 36 [l0, l1, l2, some (.int x), l4, l5] S (rz_mk h ι, w) = rg Z d rx_m111 37 [l0, l1, l2, some (.int x), l4, l5] (.int x :: S) (rz_mk h ι, w) := rz_s1 fun _ => rfl
theorem g111_37 (c : rz_oc h a 10) : rg Z d rx_m111 37 L (v3 :: v2 :: v1 :: .ref a :: []) (rz_mk h ι, w) = rz_k true (rz_f Z d 112 [.ref a, v1, v2, v3] (rz_mk h ι, w)) (fun v σ' => rg Z d rx_m111 40 L (v.toList ++ []) σ') := rz_cv (pc := 37) (n := 3) (mi := 112) (S := v3 :: v2 :: v1 :: .ref a :: []) (rest := []) rfl rfl (Nat.le_of_ble_eq_true rfl) (Nat.le_of_ble_eq_true rfl) c
theorem g111_40 : rg Z d rx_m111 40 [some (.ref a), l1, l2, l3, l4, l5] S (rz_mk h ι, w) = rg Z d rx_m111 41 [some (.ref a), l1, l2, l3, l4, l5] (.ref a :: S) (rz_mk h ι, w) := rz_s1 fun _ => rfl
theorem g111_41 : rg Z d rx_m111 41 [l0, l1, l2, l3, l4, some (.int x)] S (rz_mk h ι, w) = rg Z d rx_m111 43 [l0, l1, l2, l3, l4, some (.int x)] (.int x :: S) (rz_mk h ι, w) := rz_s1 fun _ => rfl
theorem g111_43 : rg Z d rx_m111 43 L S (rz_mk h ι, w) = rg Z d rx_m111 44 L (.int 3 :: S) (rz_mk h ι, w) := rz_s1 fun _ => rfl
theorem g111_44 : rg Z d rx_m111 44 [l0, l1, l2, l3, some (.int x), l5] S (rz_mk h ι, w) = rg Z d rx_m111 46 [l0, l1, l2, l3, some (.int x), l5] (.int x :: S) (rz_mk h ι, w) := rz_s1 fun _ => rfl
theorem g111_46 (c : rz_oc h a 10) : rg Z d rx_m111 46 L (v3 :: v2 :: v1 :: .ref a :: []) (rz_mk h ι, w) = rz_k true (rz_f Z d 112 [.ref a, v1, v2, v3] (rz_mk h ι, w)) (fun v σ' => rg Z d rx_m111 49 L (v.toList ++ []) σ') := rz_cv (pc := 46) (n := 3) (mi := 112) (S := v3 :: v2 :: v1 :: .ref a :: []) (rest := []) rfl rfl (Nat.le_of_ble_eq_true rfl) (Nat.le_of_ble_eq_true rfl) c
theorem g111_49 : rg Z d rx_m111 49 L S (rz_mk h ι, w) = rg Z d rx_m111 50 L (.int 1 :: S) (rz_mk h ι, w) := rz_s1 fun _ => rfl
theorem g111_50 (c : narrow .boolean (.int x) = .int x) : rg Z d rx_m111 50 L [.int x] (rz_mk h ι, w) = some (.inl (some (.int x)), (rz_mk h ι, w)) := rz_reti rfl rfl c
theorem e111 : rz_f Z (d + 1) 111 [.ref t0, .int s1, .int s2, .int s3, .int s4] σ = rg Z d rx_m111 0 [some (.ref t0), some (.int s1), some (.int s2), some (.int s3), some (.int s4), none] [] σ := rz_f_eq rfl (Nat.le_of_ble_eq_true rfl)
theorem g112_0 : rg Z d rx_m112 0 [l0, some (.int x), l2, l3] S (rz_mk h ι, w) = rg Z d rx_m112 1 [l0, some (.int x), l2, l3] (.int x :: S) (rz_mk h ι, w) := rz_s1 fun _ => rfl
theorem g112_1 : rg Z d rx_m112 1 L (.int x :: S) (rz_mk h ι, w) = if x < 0 then rg Z d rx_m112 30 L S (rz_mk h ι, w) else rg Z d rx_m112 4 L S (rz_mk h ι, w) := rz_if1 (pc := 1) (t := 30) (off := 29) (cc := .lt) (by decide) rfl
theorem g112_4 : rg Z d rx_m112 4 [l0, some (.int x), l2, l3] S (rz_mk h ι, w) = rg Z d rx_m112 5 [l0, some (.int x), l2, l3] (.int x :: S) (rz_mk h ι, w) := rz_s1 fun _ => rfl
theorem g112_5 : rg Z d rx_m112 5 L S (rz_mk h ι, w) = rg Z d rx_m112 7 L (.int 37 :: S) (rz_mk h ι, w) := rz_s1 fun _ => rfl
theorem g112_7 : rg Z d rx_m112 7 L (.int y :: .int x :: S) (rz_mk h ι, w) = if x < y then rg Z d rx_m112 10 L S (rz_mk h ι, w) else rg Z d rx_m112 30 L S (rz_mk h ι, w) := rz_if2 (pc := 7) (t := 30) (off := 23) (cc := .ge) (by decide) rfl
theorem g112_10 : rg Z d rx_m112 10 [l0, l1, some (.int x), l3] S (rz_mk h ι, w) = rg Z d rx_m112 11 [l0, l1, some (.int x), l3] (.int x :: S) (rz_mk h ι, w) := rz_s1 fun _ => rfl
theorem g112_11 : rg Z d rx_m112 11 L S (rz_mk h ι, w) = rg Z d rx_m112 12 L (.int 0 :: S) (rz_mk h ι, w) := rz_s1 fun _ => rfl
theorem g112_12 : rg Z d rx_m112 12 L S (rz_mk h ι, w) = rg Z d rx_m112 13 L (.int 3 :: S) (rz_mk h ι, w) := rz_s1 fun _ => rfl
theorem g112_13 : rg Z d rx_m112 13 L (v3 :: v2 :: v1 :: []) (rz_mk h ι, w) = rz_k false (rz_f Z d 161 [v1, v2, v3] (rz_mk h ι, w)) (fun v σ' => rg Z d rx_m112 16 L (v.toList ++ []) σ') := rz_cs3 (pc := 13) (n := 3) (mi := 161) (S := v3 :: v2 :: v1 :: []) (rest := []) rfl rfl (Nat.le_of_ble_eq_true rfl) (Nat.le_of_ble_eq_true rfl)
theorem g112_16 : rg Z d rx_m112 16 L (.int x :: S) (rz_mk h ι, w) = if x = 0 then rg Z d rx_m112 30 L S (rz_mk h ι, w) else rg Z d rx_m112 19 L S (rz_mk h ι, w) := rz_if1 (pc := 16) (t := 30) (off := 14) (cc := .eq) (by decide) rfl
theorem g112_19 : rg Z d rx_m112 19 [some (.ref a), l1, l2, l3] S (rz_mk h ι, w) = rg Z d rx_m112 20 [some (.ref a), l1, l2, l3] (.ref a :: S) (rz_mk h ι, w) := rz_s1 fun _ => rfl
theorem g112_20 (c : rz_fR h a 10 1) : rg Z d rx_m112 20 L (.ref a :: S) (rz_mk h ι, w) = rg Z d rx_m112 23 L (rz_rv h a 1 :: S) (rz_mk h ι, w) := rz_gR rfl (by decide) c
theorem g112_23 : rg Z d rx_m112 23 [l0, some (.int x), l2, l3] S (rz_mk h ι, w) = rg Z d rx_m112 24 [l0, some (.int x), l2, l3] (.int x :: S) (rz_mk h ι, w) := rz_s1 fun _ => rfl
theorem g112_24 : rg Z d rx_m112 24 L S (rz_mk h ι, w) = rg Z d rx_m112 25 L (.int 4 :: S) (rz_mk h ι, w) := rz_s1 fun _ => rfl
theorem g112_25 : rg Z d rx_m112 25 L (.int y :: .int x :: S) (rz_mk h ι, w) = rg Z d rx_m112 26 L (.int (x * y) :: S) (rz_mk h ι, w) := rz_s1 fun _ => rfl
theorem g112_26 : rg Z d rx_m112 26 [l0, l1, some (.int x), l3] S (rz_mk h ι, w) = rg Z d rx_m112 27 [l0, l1, some (.int x), l3] (.int x :: S) (rz_mk h ι, w) := rz_s1 fun _ => rfl
theorem g112_27 : rg Z d rx_m112 27 L (.int y :: .int x :: S) (rz_mk h ι, w) = rg Z d rx_m112 28 L (.int (x + y) :: S) (rz_mk h ι, w) := rz_s1 fun _ => rfl
theorem g112_28 : rg Z d rx_m112 28 [l0, l1, l2, some (.int x)] S (rz_mk h ι, w) = rg Z d rx_m112 29 [l0, l1, l2, some (.int x)] (.int x :: S) (rz_mk h ι, w) := rz_s1 fun _ => rfl
theorem g112_29 (c : rz_ar h a 0) (hi : rz_ix x (rz_ln h a)) (hz : Z.2.1 ≤ a) : rg Z d rx_m112 29 L (.int y :: .int x :: .ref a :: S) (rz_mk h ι, w) = rg Z d rx_m112 30 L S (rz_mk h (rz_up ι a x.toNatClampNeg y), w) := rz_iast rfl c hi hz
theorem g112_30 : rg Z d rx_m112 30 L [] (rz_mk h ι, w) = some (.inl none, (rz_mk h ι, w)) := rz_r1 fun _ => rfl
theorem e112 : rz_f Z (d + 1) 112 [.ref t0, .int s1, .int s2, .int s3] σ = rg Z d rx_m112 0 [some (.ref t0), some (.int s1), some (.int s2), some (.int s3)] [] σ := rz_f_eq rfl (Nat.le_of_ble_eq_true rfl)
theorem g113_0 : rg Z d rx_m113 0 [l0, some (.int x), l2] S (rz_mk h ι, w) = rg Z d rx_m113 1 [l0, some (.int x), l2] (.int x :: S) (rz_mk h ι, w) := rz_s1 fun _ => rfl
theorem g113_1 : rg Z d rx_m113 1 L (.int x :: S) (rz_mk h ι, w) = if x < 0 then rg Z d rx_m113 32 L S (rz_mk h ι, w) else rg Z d rx_m113 4 L S (rz_mk h ι, w) := rz_if1 (pc := 1) (t := 32) (off := 31) (cc := .lt) (by decide) rfl
theorem g113_4 : rg Z d rx_m113 4 [l0, some (.int x), l2] S (rz_mk h ι, w) = rg Z d rx_m113 5 [l0, some (.int x), l2] (.int x :: S) (rz_mk h ι, w) := rz_s1 fun _ => rfl
theorem g113_5 : rg Z d rx_m113 5 L S (rz_mk h ι, w) = rg Z d rx_m113 7 L (.int 37 :: S) (rz_mk h ι, w) := rz_s1 fun _ => rfl
theorem g113_7 : rg Z d rx_m113 7 L (.int y :: .int x :: S) (rz_mk h ι, w) = if x < y then rg Z d rx_m113 10 L S (rz_mk h ι, w) else rg Z d rx_m113 32 L S (rz_mk h ι, w) := rz_if2 (pc := 7) (t := 32) (off := 25) (cc := .ge) (by decide) rfl
theorem g113_10 : rg Z d rx_m113 10 [l0, l1, some (.int x)] S (rz_mk h ι, w) = rg Z d rx_m113 11 [l0, l1, some (.int x)] (.int x :: S) (rz_mk h ι, w) := rz_s1 fun _ => rfl
theorem g113_11 : rg Z d rx_m113 11 L S (rz_mk h ι, w) = rg Z d rx_m113 12 L (.int 0 :: S) (rz_mk h ι, w) := rz_s1 fun _ => rfl
theorem g113_12 : rg Z d rx_m113 12 L S (rz_mk h ι, w) = rg Z d rx_m113 13 L (.int 3 :: S) (rz_mk h ι, w) := rz_s1 fun _ => rfl
theorem g113_13 : rg Z d rx_m113 13 L (v3 :: v2 :: v1 :: []) (rz_mk h ι, w) = rz_k false (rz_f Z d 161 [v1, v2, v3] (rz_mk h ι, w)) (fun v σ' => rg Z d rx_m113 16 L (v.toList ++ []) σ') := rz_cs3 (pc := 13) (n := 3) (mi := 161) (S := v3 :: v2 :: v1 :: []) (rest := []) rfl rfl (Nat.le_of_ble_eq_true rfl) (Nat.le_of_ble_eq_true rfl)
theorem g113_16 : rg Z d rx_m113 16 L (.int x :: S) (rz_mk h ι, w) = if x = 0 then rg Z d rx_m113 32 L S (rz_mk h ι, w) else rg Z d rx_m113 19 L S (rz_mk h ι, w) := rz_if1 (pc := 16) (t := 32) (off := 16) (cc := .eq) (by decide) rfl
theorem g113_19 : rg Z d rx_m113 19 [some (.ref a), l1, l2] S (rz_mk h ι, w) = rg Z d rx_m113 20 [some (.ref a), l1, l2] (.ref a :: S) (rz_mk h ι, w) := rz_s1 fun _ => rfl
theorem g113_20 (c : rz_fR h a 10 1) : rg Z d rx_m113 20 L (.ref a :: S) (rz_mk h ι, w) = rg Z d rx_m113 23 L (rz_rv h a 1 :: S) (rz_mk h ι, w) := rz_gR rfl (by decide) c
theorem g113_23 : rg Z d rx_m113 23 [l0, some (.int x), l2] S (rz_mk h ι, w) = rg Z d rx_m113 24 [l0, some (.int x), l2] (.int x :: S) (rz_mk h ι, w) := rz_s1 fun _ => rfl
theorem g113_24 : rg Z d rx_m113 24 L S (rz_mk h ι, w) = rg Z d rx_m113 25 L (.int 4 :: S) (rz_mk h ι, w) := rz_s1 fun _ => rfl
theorem g113_25 : rg Z d rx_m113 25 L (.int y :: .int x :: S) (rz_mk h ι, w) = rg Z d rx_m113 26 L (.int (x * y) :: S) (rz_mk h ι, w) := rz_s1 fun _ => rfl
theorem g113_26 : rg Z d rx_m113 26 [l0, l1, some (.int x)] S (rz_mk h ι, w) = rg Z d rx_m113 27 [l0, l1, some (.int x)] (.int x :: S) (rz_mk h ι, w) := rz_s1 fun _ => rfl
theorem g113_27 : rg Z d rx_m113 27 L (.int y :: .int x :: S) (rz_mk h ι, w) = rg Z d rx_m113 28 L (.int (x + y) :: S) (rz_mk h ι, w) := rz_s1 fun _ => rfl
theorem g113_28 (c : rz_ar h a 0) (hi : rz_ix x (rz_ln h a)) : rg Z d rx_m113 28 L (.int x :: .ref a :: S) (rz_mk h ι, w) = rg Z d rx_m113 29 L (.int (ι a x.toNatClampNeg) :: S) (rz_mk h ι, w) := rz_iald rfl c hi
theorem g113_29 : rg Z d rx_m113 29 L S (rz_mk h ι, w) = rg Z d rx_m113 33 L S (rz_mk h ι, w) := rz_s1 fun _ => rfl
theorem g113_32 : rg Z d rx_m113 32 L S (rz_mk h ι, w) = rg Z d rx_m113 33 L (.int 0 :: S) (rz_mk h ι, w) := rz_s1 fun _ => rfl
theorem g113_33 : rg Z d rx_m113 33 L [.int x] (rz_mk h ι, w) = some (.inl (some (.int x)), (rz_mk h ι, w)) := rz_reti rfl rfl rfl
theorem e113 : rz_f Z (d + 1) 113 [.ref t0, .int s1, .int s2] σ = rg Z d rx_m113 0 [some (.ref t0), some (.int s1), some (.int s2)] [] σ := rz_f_eq rfl (Nat.le_of_ble_eq_true rfl)
theorem g114_0 : rg Z d rx_m114 0 [some (.ref a), l1, l2, l3, l4, l5] S (rz_mk h ι, w) = rg Z d rx_m114 1 [some (.ref a), l1, l2, l3, l4, l5] (.ref a :: S) (rz_mk h ι, w) := rz_s1 fun _ => rfl
theorem g114_1 : rg Z d rx_m114 1 L S (rz_mk h ι, w) = rg Z d rx_m114 2 L (.int 0 :: S) (rz_mk h ι, w) := rz_s1 fun _ => rfl
theorem g114_2 (c : rz_fI h a 10 6) (hz : Z.2.1 ≤ a) : rg Z d rx_m114 2 L (.int x :: .ref a :: S) (rz_mk h ι, w) = rg Z d rx_m114 5 L S (rz_mk h (rz_up ι a 6 x), w) := rz_pI rfl c hz
theorem g114_5 : rg Z d rx_m114 5 [some (.ref a), l1, l2, l3, l4, l5] S (rz_mk h ι, w) = rg Z d rx_m114 6 [some (.ref a), l1, l2, l3, l4, l5] (.ref a :: S) (rz_mk h ι, w) := rz_s1 fun _ => rfl
theorem g114_6 : rg Z d rx_m114 6 L S (rz_mk h ι, w) = rg Z d rx_m114 7 L (.int 0 :: S) (rz_mk h ι, w) := rz_s1 fun _ => rfl
theorem g114_7 (c : rz_fI h a 10 7) (hz : Z.2.1 ≤ a) : rg Z d rx_m114 7 L (.int x :: .ref a :: S) (rz_mk h ι, w) = rg Z d rx_m114 10 L S (rz_mk h (rz_up ι a 7 x), w) := rz_pI rfl c hz
theorem g114_10 : rg Z d rx_m114 10 [some (.ref a), l1, l2, l3, l4, l5] S (rz_mk h ι, w) = rg Z d rx_m114 11 [some (.ref a), l1, l2, l3, l4, l5] (.ref a :: S) (rz_mk h ι, w) := rz_s1 fun _ => rfl
theorem g114_11 : rg Z d rx_m114 11 L S (rz_mk h ι, w) = rg Z d rx_m114 12 L (.int 0 :: S) (rz_mk h ι, w) := rz_s1 fun _ => rfl
theorem g114_12 (c : rz_fI h a 10 8) (hz : Z.2.1 ≤ a) : rg Z d rx_m114 12 L (.int x :: .ref a :: S) (rz_mk h ι, w) = rg Z d rx_m114 15 L S (rz_mk h (rz_up ι a 8 x), w) := rz_pI rfl c hz
theorem g114_15 : rg Z d rx_m114 15 [some (.ref a), l1, l2, l3, l4, l5] S (rz_mk h ι, w) = rg Z d rx_m114 16 [some (.ref a), l1, l2, l3, l4, l5] (.ref a :: S) (rz_mk h ι, w) := rz_s1 fun _ => rfl
theorem g114_16 : rg Z d rx_m114 16 L S (rz_mk h ι, w) = rg Z d rx_m114 17 L (.int 0 :: S) (rz_mk h ι, w) := rz_s1 fun _ => rfl
theorem g114_17 (c : rz_fI h a 10 5) (hz : Z.2.1 ≤ a) : rg Z d rx_m114 17 L (.int x :: .ref a :: S) (rz_mk h ι, w) = rg Z d rx_m114 20 L S (rz_mk h (rz_up ι a 5 x), w) := rz_pI rfl c hz
theorem g114_20 : rg Z d rx_m114 20 L S (rz_mk h ι, w) = rg Z d rx_m114 21 L (.int 0 :: S) (rz_mk h ι, w) := rz_s1 fun _ => rfl
theorem g114_21 : rg Z d rx_m114 21 [l0, l1, some (.ref b), l3, l4, l5] (.int x :: S) (rz_mk h ι, w) = rg Z d rx_m114 22 [l0, l1, some (.ref b), some (.int x), l4, l5] S (rz_mk h ι, w) := rz_s1 fun _ => rfl
theorem g114_22 : rg Z d rx_m114 22 L S (rz_mk h ι, w) = rg Z d rx_m114 23 L (.int 0 :: S) (rz_mk h ι, w) := rz_s1 fun _ => rfl
theorem g114_23 : rg Z d rx_m114 23 [l0, l1, l2, some (.int z), l4, l5] (.int x :: S) (rz_mk h ι, w) = rg Z d rx_m114 25 [l0, l1, l2, some (.int z), some (.int x), l5] S (rz_mk h ι, w) := rz_s1 fun _ => rfl
theorem g114_25 : rg Z d rx_m114 25 [l0, l1, l2, l3, some (.int x), l5] S (rz_mk h ι, w) = rg Z d rx_m114 27 [l0, l1, l2, l3, some (.int x), l5] (.int x :: S) (rz_mk h ι, w) := rz_s1 fun _ => rfl
theorem g114_27 : rg Z d rx_m114 27 L S (rz_mk h ι, w) = rg Z d rx_m114 30 L (.int 12462 :: S) (rz_mk h ι, w) := rz_s1 fun _ => rfl
theorem g114_30 : rg Z d rx_m114 30 L (.int y :: .int x :: S) (rz_mk h ι, w) = if x < y then rg Z d rx_m114 33 L S (rz_mk h ι, w) else rg Z d rx_m114 125 L S (rz_mk h ι, w) := rz_if2 (pc := 30) (t := 125) (off := 95) (cc := .ge) (by decide) rfl
theorem g114_33 : rg Z d rx_m114 33 [l0, l1, l2, some (.int x), l4, l5] S (rz_mk h ι, w) = rg Z d rx_m114 34 [l0, l1, l2, some (.int x), l4, l5] (.int x :: S) (rz_mk h ι, w) := rz_s1 fun _ => rfl
theorem g114_34 : rg Z d rx_m114 34 [some (.ref a), l1, l2, l3, l4, l5] S (rz_mk h ι, w) = rg Z d rx_m114 35 [some (.ref a), l1, l2, l3, l4, l5] (.ref a :: S) (rz_mk h ι, w) := rz_s1 fun _ => rfl
theorem g114_35 (c : rz_fI h a 10 4) : rg Z d rx_m114 35 L (.ref a :: S) (rz_mk h ι, w) = rg Z d rx_m114 38 L (.int (ι a 4) :: S) (rz_mk h ι, w) := rz_gI rfl (by decide) c
theorem g114_38 : rg Z d rx_m114 38 L (.int y :: .int x :: S) (rz_mk h ι, w) = if x < y then rg Z d rx_m114 41 L S (rz_mk h ι, w) else rg Z d rx_m114 125 L S (rz_mk h ι, w) := rz_if2 (pc := 38) (t := 125) (off := 87) (cc := .ge) (by decide) rfl
theorem g114_41 : rg Z d rx_m114 41 [some (.ref a), l1, l2, l3, l4, l5] S (rz_mk h ι, w) = rg Z d rx_m114 42 [some (.ref a), l1, l2, l3, l4, l5] (.ref a :: S) (rz_mk h ι, w) := rz_s1 fun _ => rfl
theorem g114_42 : rg Z d rx_m114 42 [l0, l1, l2, some (.int x), l4, l5] S (rz_mk h ι, w) = rg Z d rx_m114 43 [l0, l1, l2, some (.int x), l4, l5] (.int x :: S) (rz_mk h ι, w) := rz_s1 fun _ => rfl
theorem g114_43 : rg Z d rx_m114 43 L S (rz_mk h ι, w) = rg Z d rx_m114 44 L (.int 0 :: S) (rz_mk h ι, w) := rz_s1 fun _ => rfl
theorem g114_44 (c : rz_oc h a 10) : rg Z d rx_m114 44 L (v2 :: v1 :: .ref a :: []) (rz_mk h ι, w) = rz_k true (rz_f Z d 113 [.ref a, v1, v2] (rz_mk h ι, w)) (fun v σ' => rg Z d rx_m114 47 L (v.toList ++ []) σ') := rz_cv (pc := 44) (n := 2) (mi := 113) (S := v2 :: v1 :: .ref a :: []) (rest := []) rfl rfl (Nat.le_of_ble_eq_true rfl) (Nat.le_of_ble_eq_true rfl) c
theorem g114_47 : rg Z d rx_m114 47 [l0, l1, l2, l3, some (.int z), l5] (.int x :: S) (rz_mk h ι, w) = rg Z d rx_m114 49 [l0, l1, l2, l3, some (.int z), some (.int x)] S (rz_mk h ι, w) := rz_s1 fun _ => rfl
theorem g114_49 : rg Z d rx_m114 49 [l0, l1, l2, l3, l4, some (.int x)] S (rz_mk h ι, w) = rg Z d rx_m114 51 [l0, l1, l2, l3, l4, some (.int x)] (.int x :: S) (rz_mk h ι, w) := rz_s1 fun _ => rfl
theorem g114_51 : rg Z d rx_m114 51 L S (rz_mk h ι, w) = rg Z d rx_m114 53 L (.int 6 :: S) (rz_mk h ι, w) := rz_s1 fun _ => rfl
theorem g114_53 : rg Z d rx_m114 53 L (.int y :: .int x :: S) (rz_mk h ι, w) = if x = y then rg Z d rx_m114 56 L S (rz_mk h ι, w) else rg Z d rx_m114 65 L S (rz_mk h ι, w) := rz_if2 (pc := 53) (t := 65) (off := 12) (cc := .ne) (by decide) rfl
theorem g114_56 : rg Z d rx_m114 56 [some (.ref a), l1, l2, l3, l4, l5] S (rz_mk h ι, w) = rg Z d rx_m114 57 [some (.ref a), l1, l2, l3, l4, l5] (.ref a :: S) (rz_mk h ι, w) := rz_s1 fun _ => rfl
theorem g114_57 : rg Z d rx_m114 57 [l0, l1, l2, some (.int x), l4, l5] S (rz_mk h ι, w) = rg Z d rx_m114 58 [l0, l1, l2, some (.int x), l4, l5] (.int x :: S) (rz_mk h ι, w) := rz_s1 fun _ => rfl
theorem g114_58 (c : rz_oc h a 10) : rg Z d rx_m114 58 L (v1 :: .ref a :: []) (rz_mk h ι, w) = rz_k true (rz_f Z d 117 [.ref a, v1] (rz_mk h ι, w)) (fun v σ' => rg Z d rx_m114 61 L (v.toList ++ []) σ') := rz_cv (pc := 58) (n := 1) (mi := 117) (S := v1 :: .ref a :: []) (rest := []) rfl rfl (Nat.le_of_ble_eq_true rfl) (Nat.le_of_ble_eq_true rfl) c
theorem g114_61 : rg Z d rx_m114 61 [l0, l1, some (.ref b), l3, l4, l5] (.int x :: S) (rz_mk h ι, w) = rg Z d rx_m114 62 [l0, l1, some (.ref b), some (.int x), l4, l5] S (rz_mk h ι, w) := rz_s1 fun _ => rfl
theorem g114_62 : rg Z d rx_m114 62 L S (rz_mk h ι, w) = rg Z d rx_m114 119 L S (rz_mk h ι, w) := rz_s1 fun _ => rfl
theorem g114_65 : rg Z d rx_m114 65 [some (.ref a), l1, l2, l3, l4, l5] S (rz_mk h ι, w) = rg Z d rx_m114 66 [some (.ref a), l1, l2, l3, l4, l5] (.ref a :: S) (rz_mk h ι, w) := rz_s1 fun _ => rfl
theorem g114_66 (c : rz_fI h a 10 6) : rg Z d rx_m114 66 L (.ref a :: S) (rz_mk h ι, w) = rg Z d rx_m114 69 L (.int (ι a 6) :: S) (rz_mk h ι, w) := rz_gI rfl (by decide) c
theorem g114_69 : rg Z d rx_m114 69 L S (rz_mk h ι, w) = rg Z d rx_m114 72 L (.int 200 :: S) (rz_mk h ι, w) := rz_s1 fun _ => rfl
theorem g114_72 : rg Z d rx_m114 72 L (.int y :: .int x :: S) (rz_mk h ι, w) = if x < y then rg Z d rx_m114 78 L S (rz_mk h ι, w) else rg Z d rx_m114 75 L S (rz_mk h ι, w) := rz_if2 (pc := 72) (t := 78) (off := 6) (cc := .lt) (by decide) rfl
theorem g114_75 : rg Z d rx_m114 75 L S (rz_mk h ι, w) = rg Z d rx_m114 125 L S (rz_mk h ι, w) := rz_s1 fun _ => rfl
theorem g114_78 : rg Z d rx_m114 78 [some (.ref a), l1, l2, l3, l4, l5] S (rz_mk h ι, w) = rg Z d rx_m114 79 [some (.ref a), l1, l2, l3, l4, l5] (.ref a :: S) (rz_mk h ι, w) := rz_s1 fun _ => rfl
theorem g114_79 : rg Z d rx_m114 79 L (.ref a :: S) (rz_mk h ι, w) = rg Z d rx_m114 80 L (.ref a :: .ref a :: S) (rz_mk h ι, w) := rz_s1 fun _ => rfl
theorem g114_80 (c : rz_fI h a 10 6) : rg Z d rx_m114 80 L (.ref a :: S) (rz_mk h ι, w) = rg Z d rx_m114 83 L (.int (ι a 6) :: S) (rz_mk h ι, w) := rz_gI rfl (by decide) c
theorem g114_83 : rg Z d rx_m114 83 L S (rz_mk h ι, w) = rg Z d rx_m114 84 L (.int 1 :: S) (rz_mk h ι, w) := rz_s1 fun _ => rfl
theorem g114_84 : rg Z d rx_m114 84 L (.int y :: .int x :: S) (rz_mk h ι, w) = rg Z d rx_m114 85 L (.int (x + y) :: S) (rz_mk h ι, w) := rz_s1 fun _ => rfl
theorem g114_85 (c : rz_fI h a 10 6) (hz : Z.2.1 ≤ a) : rg Z d rx_m114 85 L (.int x :: .ref a :: S) (rz_mk h ι, w) = rg Z d rx_m114 88 L S (rz_mk h (rz_up ι a 6 x), w) := rz_pI rfl c hz
theorem g114_88 : rg Z d rx_m114 88 [l0, l1, l2, l3, l4, some (.int x)] S (rz_mk h ι, w) = rg Z d rx_m114 90 [l0, l1, l2, l3, l4, some (.int x)] (.int x :: S) (rz_mk h ι, w) := rz_s1 fun _ => rfl
theorem g114_90 : rg Z d rx_m114 90 L S (rz_mk h ι, w) = rg Z d rx_m114 91 L (.int 5 :: S) (rz_mk h ι, w) := rz_s1 fun _ => rfl
theorem g114_91 : rg Z d rx_m114 91 L (.int y :: .int x :: S) (rz_mk h ι, w) = if x = y then rg Z d rx_m114 94 L S (rz_mk h ι, w) else rg Z d rx_m114 103 L S (rz_mk h ι, w) := rz_if2 (pc := 91) (t := 103) (off := 12) (cc := .ne) (by decide) rfl
theorem g114_94 : rg Z d rx_m114 94 [some (.ref a), l1, l2, l3, l4, l5] S (rz_mk h ι, w) = rg Z d rx_m114 95 [some (.ref a), l1, l2, l3, l4, l5] (.ref a :: S) (rz_mk h ι, w) := rz_s1 fun _ => rfl
theorem g114_95 : rg Z d rx_m114 95 [l0, l1, l2, some (.int x), l4, l5] S (rz_mk h ι, w) = rg Z d rx_m114 96 [l0, l1, l2, some (.int x), l4, l5] (.int x :: S) (rz_mk h ι, w) := rz_s1 fun _ => rfl
theorem g114_96 (c : rz_oc h a 10) : rg Z d rx_m114 96 L (v1 :: .ref a :: []) (rz_mk h ι, w) = rz_k true (rz_f Z d 116 [.ref a, v1] (rz_mk h ι, w)) (fun v σ' => rg Z d rx_m114 99 L (v.toList ++ []) σ') := rz_cv (pc := 96) (n := 1) (mi := 116) (S := v1 :: .ref a :: []) (rest := []) rfl rfl (Nat.le_of_ble_eq_true rfl) (Nat.le_of_ble_eq_true rfl) c
theorem g114_99 : rg Z d rx_m114 99 [l0, l1, some (.ref b), l3, l4, l5] (.int x :: S) (rz_mk h ι, w) = rg Z d rx_m114 100 [l0, l1, some (.ref b), some (.int x), l4, l5] S (rz_mk h ι, w) := rz_s1 fun _ => rfl
theorem g114_100 : rg Z d rx_m114 100 L S (rz_mk h ι, w) = rg Z d rx_m114 119 L S (rz_mk h ι, w) := rz_s1 fun _ => rfl
theorem g114_103 : rg Z d rx_m114 103 [some (.ref a), l1, l2, l3, l4, l5] S (rz_mk h ι, w) = rg Z d rx_m114 104 [some (.ref a), l1, l2, l3, l4, l5] (.ref a :: S) (rz_mk h ι, w) := rz_s1 fun _ => rfl
theorem g114_104 : rg Z d rx_m114 104 [some (.ref a), l1, l2, l3, l4, l5] S (rz_mk h ι, w) = rg Z d rx_m114 105 [some (.ref a), l1, l2, l3, l4, l5] (.ref a :: S) (rz_mk h ι, w) := rz_s1 fun _ => rfl
theorem g114_105 : rg Z d rx_m114 105 [l0, some (.ref a), l2, l3, l4, l5] S (rz_mk h ι, w) = rg Z d rx_m114 106 [l0, some (.ref a), l2, l3, l4, l5] (.ref a :: S) (rz_mk h ι, w) := rz_s1 fun _ => rfl
theorem g114_106 : rg Z d rx_m114 106 [l0, l1, some (.ref a), l3, l4, l5] S (rz_mk h ι, w) = rg Z d rx_m114 107 [l0, l1, some (.ref a), l3, l4, l5] (.ref a :: S) (rz_mk h ι, w) := rz_s1 fun _ => rfl
theorem g114_107 : rg Z d rx_m114 107 [l0, l1, l2, some (.int x), l4, l5] S (rz_mk h ι, w) = rg Z d rx_m114 108 [l0, l1, l2, some (.int x), l4, l5] (.int x :: S) (rz_mk h ι, w) := rz_s1 fun _ => rfl
theorem g114_108 : rg Z d rx_m114 108 [l0, l1, l2, l3, l4, some (.int x)] S (rz_mk h ι, w) = rg Z d rx_m114 110 [l0, l1, l2, l3, l4, some (.int x)] (.int x :: S) (rz_mk h ι, w) := rz_s1 fun _ => rfl
theorem g114_110 (c : rz_oc h a 10) : rg Z d rx_m114 110 L (v4 :: v3 :: v2 :: v1 :: .ref a :: [.ref t0]) (rz_mk h ι, w) = rz_k true (rz_f Z d 118 [.ref a, v1, v2, v3, v4] (rz_mk h ι, w)) (fun v σ' => rg Z d rx_m114 113 L (v.toList ++ [.ref t0]) σ') := rz_cv (pc := 110) (n := 4) (mi := 118) (S := v4 :: v3 :: v2 :: v1 :: .ref a :: [.ref t0]) (rest := [.ref t0]) rfl rfl (Nat.le_of_ble_eq_true rfl) (Nat.le_of_ble_eq_true rfl) c
theorem g114_113 (c : rz_oc h a 10) : rg Z d rx_m114 113 L (v1 :: .ref a :: []) (rz_mk h ι, w) = rz_k true (rz_f Z d 115 [.ref a, v1] (rz_mk h ι, w)) (fun v σ' => rg Z d rx_m114 116 L (v.toList ++ []) σ') := rz_cv (pc := 113) (n := 1) (mi := 115) (S := v1 :: .ref a :: []) (rest := []) rfl rfl (Nat.le_of_ble_eq_true rfl) (Nat.le_of_ble_eq_true rfl) c
theorem g114_116 : rg Z d rx_m114 116 [l0, l1, some (.ref b), some (.int x), l4, l5] S (rz_mk h ι, w) = rg Z d rx_m114 119 [l0, l1, some (.ref b), some (.int (x + 1)), l4, l5] S (rz_mk h ι, w) := rz_s1 fun _ => rfl
theorem g114_119 : rg Z d rx_m114 119 [l0, l1, l2, some (.int z), some (.int x), l5] S (rz_mk h ι, w) = rg Z d rx_m114 122 [l0, l1, l2, some (.int z), some (.int (x + 1)), l5] S (rz_mk h ι, w) := rz_s1 fun _ => rfl
theorem g114_122 : rg Z d rx_m114 122 L S (rz_mk h ι, w) = rg Z d rx_m114 25 L S (rz_mk h ι, w) := rz_s1 fun _ => rfl
theorem g114_125 : rg Z d rx_m114 125 L [] (rz_mk h ι, w) = some (.inl none, (rz_mk h ι, w)) := rz_r1 fun _ => rfl
theorem e114 : rz_f Z (d + 1) 114 [.ref t0, .ref t1, .ref t2] σ = rg Z d rx_m114 0 [some (.ref t0), some (.ref t1), some (.ref t2), none, none, none] [] σ := rz_f_eq rfl (Nat.le_of_ble_eq_true rfl)
theorem g115_0 : rg Z d rx_m115 0 [some (.ref a), l1] S (rz_mk h ι, w) = rg Z d rx_m115 1 [some (.ref a), l1] (.ref a :: S) (rz_mk h ι, w) := rz_s1 fun _ => rfl
theorem g115_1 : rg Z d rx_m115 1 L (.ref a :: S) (rz_mk h ι, w) = rg Z d rx_m115 2 L (.ref a :: .ref a :: S) (rz_mk h ι, w) := rz_s1 fun _ => rfl
theorem g115_2 (c : rz_fI h a 10 7) : rg Z d rx_m115 2 L (.ref a :: S) (rz_mk h ι, w) = rg Z d rx_m115 5 L (.int (ι a 7) :: S) (rz_mk h ι, w) := rz_gI rfl (by decide) c
theorem g115_5 : rg Z d rx_m115 5 [l0, some (.int x)] S (rz_mk h ι, w) = rg Z d rx_m115 6 [l0, some (.int x)] (.int x :: S) (rz_mk h ι, w) := rz_s1 fun _ => rfl
theorem g115_6 : rg Z d rx_m115 6 L (.int x :: S) (rz_mk h ι, w) = if x = 0 then rg Z d rx_m115 13 L S (rz_mk h ι, w) else rg Z d rx_m115 9 L S (rz_mk h ι, w) := rz_if1 (pc := 6) (t := 13) (off := 7) (cc := .eq) (by decide) rfl
theorem g115_9 : rg Z d rx_m115 9 L S (rz_mk h ι, w) = rg Z d rx_m115 10 L (.int 1 :: S) (rz_mk h ι, w) := rz_s1 fun _ => rfl
theorem g115_10 : rg Z d rx_m115 10 L S (rz_mk h ι, w) = rg Z d rx_m115 14 L S (rz_mk h ι, w) := rz_s1 fun _ => rfl
theorem g115_13 : rg Z d rx_m115 13 L S (rz_mk h ι, w) = rg Z d rx_m115 14 L (.int 0 :: S) (rz_mk h ι, w) := rz_s1 fun _ => rfl
theorem g115_14 : rg Z d rx_m115 14 L (.int y :: .int x :: S) (rz_mk h ι, w) = rg Z d rx_m115 15 L (.int (x + y) :: S) (rz_mk h ι, w) := rz_s1 fun _ => rfl
theorem g115_15 (c : rz_fI h a 10 7) (hz : Z.2.1 ≤ a) : rg Z d rx_m115 15 L (.int x :: .ref a :: S) (rz_mk h ι, w) = rg Z d rx_m115 18 L S (rz_mk h (rz_up ι a 7 x), w) := rz_pI rfl c hz
theorem g115_18 : rg Z d rx_m115 18 [some (.ref a), l1] S (rz_mk h ι, w) = rg Z d rx_m115 19 [some (.ref a), l1] (.ref a :: S) (rz_mk h ι, w) := rz_s1 fun _ => rfl
theorem g115_19 : rg Z d rx_m115 19 L (.ref a :: S) (rz_mk h ι, w) = rg Z d rx_m115 20 L (.ref a :: .ref a :: S) (rz_mk h ι, w) := rz_s1 fun _ => rfl
theorem g115_20 (c : rz_fI h a 10 8) : rg Z d rx_m115 20 L (.ref a :: S) (rz_mk h ι, w) = rg Z d rx_m115 23 L (.int (ι a 8) :: S) (rz_mk h ι, w) := rz_gI rfl (by decide) c
theorem g115_23 : rg Z d rx_m115 23 [l0, some (.int x)] S (rz_mk h ι, w) = rg Z d rx_m115 24 [l0, some (.int x)] (.int x :: S) (rz_mk h ι, w) := rz_s1 fun _ => rfl
theorem g115_24 : rg Z d rx_m115 24 L (.int x :: S) (rz_mk h ι, w) = if x = 0 then rg Z d rx_m115 31 L S (rz_mk h ι, w) else rg Z d rx_m115 27 L S (rz_mk h ι, w) := rz_if1 (pc := 24) (t := 31) (off := 7) (cc := .eq) (by decide) rfl
theorem g115_27 : rg Z d rx_m115 27 L S (rz_mk h ι, w) = rg Z d rx_m115 28 L (.int 0 :: S) (rz_mk h ι, w) := rz_s1 fun _ => rfl
theorem g115_28 : rg Z d rx_m115 28 L S (rz_mk h ι, w) = rg Z d rx_m115 32 L S (rz_mk h ι, w) := rz_s1 fun _ => rfl
theorem g115_31 : rg Z d rx_m115 31 L S (rz_mk h ι, w) = rg Z d rx_m115 32 L (.int 1 :: S) (rz_mk h ι, w) := rz_s1 fun _ => rfl
theorem g115_32 : rg Z d rx_m115 32 L (.int y :: .int x :: S) (rz_mk h ι, w) = rg Z d rx_m115 33 L (.int (x + y) :: S) (rz_mk h ι, w) := rz_s1 fun _ => rfl
theorem g115_33 (c : rz_fI h a 10 8) (hz : Z.2.1 ≤ a) : rg Z d rx_m115 33 L (.int x :: .ref a :: S) (rz_mk h ι, w) = rg Z d rx_m115 36 L S (rz_mk h (rz_up ι a 8 x), w) := rz_pI rfl c hz
theorem g115_36 : rg Z d rx_m115 36 L [] (rz_mk h ι, w) = some (.inl none, (rz_mk h ι, w)) := rz_r1 fun _ => rfl
theorem e115 : rz_f Z (d + 1) 115 [.ref t0, .int s1] σ = rg Z d rx_m115 0 [some (.ref t0), some (.int s1)] [] σ := rz_f_eq rfl (Nat.le_of_ble_eq_true rfl)
theorem g116_0 : rg Z d rx_m116 0 [some (.ref a), l1, l2] S (rz_mk h ι, w) = rg Z d rx_m116 1 [some (.ref a), l1, l2] (.ref a :: S) (rz_mk h ι, w) := rz_s1 fun _ => rfl
theorem g116_1 : rg Z d rx_m116 1 [l0, some (.int x), l2] S (rz_mk h ι, w) = rg Z d rx_m116 2 [l0, some (.int x), l2] (.int x :: S) (rz_mk h ι, w) := rz_s1 fun _ => rfl
theorem g116_2 : rg Z d rx_m116 2 L S (rz_mk h ι, w) = rg Z d rx_m116 3 L (.int 1 :: S) (rz_mk h ι, w) := rz_s1 fun _ => rfl
theorem g116_3 (c : rz_oc h a 10) : rg Z d rx_m116 3 L (v2 :: v1 :: .ref a :: []) (rz_mk h ι, w) = rz_k true (rz_f Z d 113 [.ref a, v1, v2] (rz_mk h ι, w)) (fun v σ' => rg Z d rx_m116 6 L (v.toList ++ []) σ') := rz_cv (pc := 3) (n := 2) (mi := 113) (S := v2 :: v1 :: .ref a :: []) (rest := []) rfl rfl (Nat.le_of_ble_eq_true rfl) (Nat.le_of_ble_eq_true rfl) c
theorem g116_6 : rg Z d rx_m116 6 [l0, some (.int z), l2] (.int x :: S) (rz_mk h ι, w) = rg Z d rx_m116 7 [l0, some (.int z), some (.int x)] S (rz_mk h ι, w) := rz_s1 fun _ => rfl
theorem g116_7 : rg Z d rx_m116 7 [l0, l1, some (.int x)] S (rz_mk h ι, w) = rg Z d rx_m116 8 [l0, l1, some (.int x)] (.int x :: S) (rz_mk h ι, w) := rz_s1 fun _ => rfl
theorem g116_8 : rg Z d rx_m116 8 L (.int x :: S) (rz_mk h ι, w) = if x = 0 then rg Z d rx_m116 20 L S (rz_mk h ι, w) else rg Z d rx_m116 11 L S (rz_mk h ι, w) := rz_if1 (pc := 8) (t := 20) (off := 12) (cc := .eq) (by decide) rfl
theorem g116_11 : rg Z d rx_m116 11 [some (.ref a), l1, l2] S (rz_mk h ι, w) = rg Z d rx_m116 12 [some (.ref a), l1, l2] (.ref a :: S) (rz_mk h ι, w) := rz_s1 fun _ => rfl
theorem g116_12 (c : rz_fI h a 10 5) : rg Z d rx_m116 12 L (.ref a :: S) (rz_mk h ι, w) = rg Z d rx_m116 15 L (.int (ι a 5) :: S) (rz_mk h ι, w) := rz_gI rfl (by decide) c
theorem g116_15 : rg Z d rx_m116 15 L S (rz_mk h ι, w) = rg Z d rx_m116 17 L (.int 6 :: S) (rz_mk h ι, w) := rz_s1 fun _ => rfl
theorem g116_17 : rg Z d rx_m116 17 L (.int y :: .int x :: S) (rz_mk h ι, w) = if x < y then rg Z d rx_m116 29 L S (rz_mk h ι, w) else rg Z d rx_m116 20 L S (rz_mk h ι, w) := rz_if2 (pc := 17) (t := 29) (off := 12) (cc := .lt) (by decide) rfl
theorem g116_20 : rg Z d rx_m116 20 [some (.ref a), l1, l2] S (rz_mk h ι, w) = rg Z d rx_m116 21 [some (.ref a), l1, l2] (.ref a :: S) (rz_mk h ι, w) := rz_s1 fun _ => rfl
theorem g116_21 : rg Z d rx_m116 21 [l0, some (.int x), l2] S (rz_mk h ι, w) = rg Z d rx_m116 22 [l0, some (.int x), l2] (.int x :: S) (rz_mk h ι, w) := rz_s1 fun _ => rfl
theorem g116_22 : rg Z d rx_m116 22 L S (rz_mk h ι, w) = rg Z d rx_m116 23 L (.int 2 :: S) (rz_mk h ι, w) := rz_s1 fun _ => rfl
theorem g116_23 (c : rz_oc h a 10) : rg Z d rx_m116 23 L (v2 :: v1 :: .ref a :: []) (rz_mk h ι, w) = rz_k true (rz_f Z d 113 [.ref a, v1, v2] (rz_mk h ι, w)) (fun v σ' => rg Z d rx_m116 26 L (v.toList ++ []) σ') := rz_cv (pc := 23) (n := 2) (mi := 113) (S := v2 :: v1 :: .ref a :: []) (rest := []) rfl rfl (Nat.le_of_ble_eq_true rfl) (Nat.le_of_ble_eq_true rfl) c
theorem g116_26 : rg Z d rx_m116 26 L S (rz_mk h ι, w) = rg Z d rx_m116 27 L (.int 1 :: S) (rz_mk h ι, w) := rz_s1 fun _ => rfl
theorem g116_27 : rg Z d rx_m116 27 L (.int y :: .int x :: S) (rz_mk h ι, w) = rg Z d rx_m116 28 L (.int (x + y) :: S) (rz_mk h ι, w) := rz_s1 fun _ => rfl
theorem g116_28 : rg Z d rx_m116 28 L [.int x] (rz_mk h ι, w) = some (.inl (some (.int x)), (rz_mk h ι, w)) := rz_reti rfl rfl rfl
theorem g116_29 : rg Z d rx_m116 29 [some (.ref a), l1, l2] S (rz_mk h ι, w) = rg Z d rx_m116 30 [some (.ref a), l1, l2] (.ref a :: S) (rz_mk h ι, w) := rz_s1 fun _ => rfl
theorem g116_30 (c : rz_fR h a 10 3) : rg Z d rx_m116 30 L (.ref a :: S) (rz_mk h ι, w) = rg Z d rx_m116 33 L (rz_rv h a 3 :: S) (rz_mk h ι, w) := rz_gR rfl (by decide) c
theorem g116_33 : rg Z d rx_m116 33 [some (.ref a), l1, l2] S (rz_mk h ι, w) = rg Z d rx_m116 34 [some (.ref a), l1, l2] (.ref a :: S) (rz_mk h ι, w) := rz_s1 fun _ => rfl
theorem g116_34 (c : rz_fI h a 10 5) : rg Z d rx_m116 34 L (.ref a :: S) (rz_mk h ι, w) = rg Z d rx_m116 37 L (.int (ι a 5) :: S) (rz_mk h ι, w) := rz_gI rfl (by decide) c
theorem g116_37 : rg Z d rx_m116 37 [l0, l1, some (.int x)] S (rz_mk h ι, w) = rg Z d rx_m116 38 [l0, l1, some (.int x)] (.int x :: S) (rz_mk h ι, w) := rz_s1 fun _ => rfl
theorem g116_38 (c : rz_ar h a 0) (hi : rz_ix x (rz_ln h a)) (hz : Z.2.1 ≤ a) : rg Z d rx_m116 38 L (.int y :: .int x :: .ref a :: S) (rz_mk h ι, w) = rg Z d rx_m116 39 L S (rz_mk h (rz_up ι a x.toNatClampNeg y), w) := rz_iast rfl c hi hz
theorem g116_39 : rg Z d rx_m116 39 [some (.ref a), l1, l2] S (rz_mk h ι, w) = rg Z d rx_m116 40 [some (.ref a), l1, l2] (.ref a :: S) (rz_mk h ι, w) := rz_s1 fun _ => rfl
theorem g116_40 : rg Z d rx_m116 40 L (.ref a :: S) (rz_mk h ι, w) = rg Z d rx_m116 41 L (.ref a :: .ref a :: S) (rz_mk h ι, w) := rz_s1 fun _ => rfl
theorem g116_41 (c : rz_fI h a 10 5) : rg Z d rx_m116 41 L (.ref a :: S) (rz_mk h ι, w) = rg Z d rx_m116 44 L (.int (ι a 5) :: S) (rz_mk h ι, w) := rz_gI rfl (by decide) c
theorem g116_44 : rg Z d rx_m116 44 L S (rz_mk h ι, w) = rg Z d rx_m116 45 L (.int 1 :: S) (rz_mk h ι, w) := rz_s1 fun _ => rfl
theorem g116_45 : rg Z d rx_m116 45 L (.int y :: .int x :: S) (rz_mk h ι, w) = rg Z d rx_m116 46 L (.int (x + y) :: S) (rz_mk h ι, w) := rz_s1 fun _ => rfl
theorem g116_46 (c : rz_fI h a 10 5) (hz : Z.2.1 ≤ a) : rg Z d rx_m116 46 L (.int x :: .ref a :: S) (rz_mk h ι, w) = rg Z d rx_m116 49 L S (rz_mk h (rz_up ι a 5 x), w) := rz_pI rfl c hz
theorem g116_49 : rg Z d rx_m116 49 [l0, some (.int x), l2] S (rz_mk h ι, w) = rg Z d rx_m116 50 [l0, some (.int x), l2] (.int x :: S) (rz_mk h ι, w) := rz_s1 fun _ => rfl
theorem g116_50 : rg Z d rx_m116 50 L S (rz_mk h ι, w) = rg Z d rx_m116 51 L (.int 1 :: S) (rz_mk h ι, w) := rz_s1 fun _ => rfl
theorem g116_51 : rg Z d rx_m116 51 L (.int y :: .int x :: S) (rz_mk h ι, w) = rg Z d rx_m116 52 L (.int (x + y) :: S) (rz_mk h ι, w) := rz_s1 fun _ => rfl
theorem g116_52 : rg Z d rx_m116 52 L [.int x] (rz_mk h ι, w) = some (.inl (some (.int x)), (rz_mk h ι, w)) := rz_reti rfl rfl rfl
theorem e116 : rz_f Z (d + 1) 116 [.ref t0, .int s1] σ = rg Z d rx_m116 0 [some (.ref t0), some (.int s1), none] [] σ := rz_f_eq rfl (Nat.le_of_ble_eq_true rfl)
theorem g117_0 : rg Z d rx_m117 0 [some (.ref a), l1, l2] S (rz_mk h ι, w) = rg Z d rx_m117 1 [some (.ref a), l1, l2] (.ref a :: S) (rz_mk h ι, w) := rz_s1 fun _ => rfl
theorem g117_1 (c : rz_fI h a 10 5) : rg Z d rx_m117 1 L (.ref a :: S) (rz_mk h ι, w) = rg Z d rx_m117 4 L (.int (ι a 5) :: S) (rz_mk h ι, w) := rz_gI rfl (by decide) c
theorem g117_4 : rg Z d rx_m117 4 L S (rz_mk h ι, w) = rg Z d rx_m117 5 L (.int 1 :: S) (rz_mk h ι, w) := rz_s1 fun _ => rfl
theorem g117_5 : rg Z d rx_m117 5 L (.int y :: .int x :: S) (rz_mk h ι, w) = rg Z d rx_m117 6 L (.int (x - y) :: S) (rz_mk h ι, w) := rz_s1 fun _ => rfl
theorem g117_6 : rg Z d rx_m117 6 [l0, some (.int z), l2] (.int x :: S) (rz_mk h ι, w) = rg Z d rx_m117 7 [l0, some (.int z), some (.int x)] S (rz_mk h ι, w) := rz_s1 fun _ => rfl
theorem g117_7 : rg Z d rx_m117 7 [l0, l1, some (.int x)] S (rz_mk h ι, w) = rg Z d rx_m117 8 [l0, l1, some (.int x)] (.int x :: S) (rz_mk h ι, w) := rz_s1 fun _ => rfl
theorem g117_8 : rg Z d rx_m117 8 L (.int x :: S) (rz_mk h ι, w) = if x < 0 then rg Z d rx_m117 17 L S (rz_mk h ι, w) else rg Z d rx_m117 11 L S (rz_mk h ι, w) := rz_if1 (pc := 8) (t := 17) (off := 9) (cc := .lt) (by decide) rfl
theorem g117_11 : rg Z d rx_m117 11 [l0, l1, some (.int x)] S (rz_mk h ι, w) = rg Z d rx_m117 12 [l0, l1, some (.int x)] (.int x :: S) (rz_mk h ι, w) := rz_s1 fun _ => rfl
theorem g117_12 : rg Z d rx_m117 12 L S (rz_mk h ι, w) = rg Z d rx_m117 14 L (.int 6 :: S) (rz_mk h ι, w) := rz_s1 fun _ => rfl
theorem g117_14 : rg Z d rx_m117 14 L (.int y :: .int x :: S) (rz_mk h ι, w) = if x < y then rg Z d rx_m117 21 L S (rz_mk h ι, w) else rg Z d rx_m117 17 L S (rz_mk h ι, w) := rz_if2 (pc := 14) (t := 21) (off := 7) (cc := .lt) (by decide) rfl
theorem g117_17 : rg Z d rx_m117 17 [l0, some (.int x), l2] S (rz_mk h ι, w) = rg Z d rx_m117 18 [l0, some (.int x), l2] (.int x :: S) (rz_mk h ι, w) := rz_s1 fun _ => rfl
theorem g117_18 : rg Z d rx_m117 18 L S (rz_mk h ι, w) = rg Z d rx_m117 19 L (.int 1 :: S) (rz_mk h ι, w) := rz_s1 fun _ => rfl
theorem g117_19 : rg Z d rx_m117 19 L (.int y :: .int x :: S) (rz_mk h ι, w) = rg Z d rx_m117 20 L (.int (x + y) :: S) (rz_mk h ι, w) := rz_s1 fun _ => rfl
theorem g117_20 : rg Z d rx_m117 20 L [.int x] (rz_mk h ι, w) = some (.inl (some (.int x)), (rz_mk h ι, w)) := rz_reti rfl rfl rfl
theorem g117_21 : rg Z d rx_m117 21 [some (.ref a), l1, l2] S (rz_mk h ι, w) = rg Z d rx_m117 22 [some (.ref a), l1, l2] (.ref a :: S) (rz_mk h ι, w) := rz_s1 fun _ => rfl
theorem g117_22 (c : rz_fR h a 10 3) : rg Z d rx_m117 22 L (.ref a :: S) (rz_mk h ι, w) = rg Z d rx_m117 25 L (rz_rv h a 3 :: S) (rz_mk h ι, w) := rz_gR rfl (by decide) c
theorem g117_25 : rg Z d rx_m117 25 [l0, l1, some (.int x)] S (rz_mk h ι, w) = rg Z d rx_m117 26 [l0, l1, some (.int x)] (.int x :: S) (rz_mk h ι, w) := rz_s1 fun _ => rfl
theorem g117_26 : rg Z d rx_m117 26 L (.int x :: .ref b :: S) (rz_mk h ι, w) = rg Z d rx_m117 27 L (.int x :: .ref b :: .int x :: .ref b :: S) (rz_mk h ι, w) := rz_s1 fun _ => rfl
theorem g117_27 (c : rz_ar h a 0) (hi : rz_ix x (rz_ln h a)) : rg Z d rx_m117 27 L (.int x :: .ref a :: S) (rz_mk h ι, w) = rg Z d rx_m117 28 L (.int (ι a x.toNatClampNeg) :: S) (rz_mk h ι, w) := rz_iald rfl c hi
theorem g117_28 : rg Z d rx_m117 28 L S (rz_mk h ι, w) = rg Z d rx_m117 29 L (.int 1 :: S) (rz_mk h ι, w) := rz_s1 fun _ => rfl
theorem g117_29 : rg Z d rx_m117 29 L (.int y :: .int x :: S) (rz_mk h ι, w) = rg Z d rx_m117 30 L (.int (x - y) :: S) (rz_mk h ι, w) := rz_s1 fun _ => rfl
theorem g117_30 (c : rz_ar h a 0) (hi : rz_ix x (rz_ln h a)) (hz : Z.2.1 ≤ a) : rg Z d rx_m117 30 L (.int y :: .int x :: .ref a :: S) (rz_mk h ι, w) = rg Z d rx_m117 31 L S (rz_mk h (rz_up ι a x.toNatClampNeg y), w) := rz_iast rfl c hi hz
theorem g117_31 : rg Z d rx_m117 31 [some (.ref a), l1, l2] S (rz_mk h ι, w) = rg Z d rx_m117 32 [some (.ref a), l1, l2] (.ref a :: S) (rz_mk h ι, w) := rz_s1 fun _ => rfl
theorem g117_32 (c : rz_fR h a 10 3) : rg Z d rx_m117 32 L (.ref a :: S) (rz_mk h ι, w) = rg Z d rx_m117 35 L (rz_rv h a 3 :: S) (rz_mk h ι, w) := rz_gR rfl (by decide) c
theorem g117_35 : rg Z d rx_m117 35 [l0, l1, some (.int x)] S (rz_mk h ι, w) = rg Z d rx_m117 36 [l0, l1, some (.int x)] (.int x :: S) (rz_mk h ι, w) := rz_s1 fun _ => rfl
theorem g117_36 (c : rz_ar h a 0) (hi : rz_ix x (rz_ln h a)) : rg Z d rx_m117 36 L (.int x :: .ref a :: S) (rz_mk h ι, w) = rg Z d rx_m117 37 L (.int (ι a x.toNatClampNeg) :: S) (rz_mk h ι, w) := rz_iald rfl c hi
theorem g117_37 : rg Z d rx_m117 37 L (.int x :: S) (rz_mk h ι, w) = if 0 < x then rg Z d rx_m117 40 L S (rz_mk h ι, w) else rg Z d rx_m117 49 L S (rz_mk h ι, w) := rz_if1 (pc := 37) (t := 49) (off := 12) (cc := .le) (by decide) rfl
theorem g117_40 : rg Z d rx_m117 40 [some (.ref a), l1, l2] S (rz_mk h ι, w) = rg Z d rx_m117 41 [some (.ref a), l1, l2] (.ref a :: S) (rz_mk h ι, w) := rz_s1 fun _ => rfl
theorem g117_41 : rg Z d rx_m117 41 [l0, some (.int x), l2] S (rz_mk h ι, w) = rg Z d rx_m117 42 [l0, some (.int x), l2] (.int x :: S) (rz_mk h ι, w) := rz_s1 fun _ => rfl
theorem g117_42 : rg Z d rx_m117 42 L S (rz_mk h ι, w) = rg Z d rx_m117 43 L (.int 1 :: S) (rz_mk h ι, w) := rz_s1 fun _ => rfl
theorem g117_43 (c : rz_oc h a 10) : rg Z d rx_m117 43 L (v2 :: v1 :: .ref a :: []) (rz_mk h ι, w) = rz_k true (rz_f Z d 113 [.ref a, v1, v2] (rz_mk h ι, w)) (fun v σ' => rg Z d rx_m117 46 L (v.toList ++ []) σ') := rz_cv (pc := 43) (n := 2) (mi := 113) (S := v2 :: v1 :: .ref a :: []) (rest := []) rfl rfl (Nat.le_of_ble_eq_true rfl) (Nat.le_of_ble_eq_true rfl) c
theorem g117_46 : rg Z d rx_m117 46 L S (rz_mk h ι, w) = rg Z d rx_m117 47 L (.int 1 :: S) (rz_mk h ι, w) := rz_s1 fun _ => rfl
theorem g117_47 : rg Z d rx_m117 47 L (.int y :: .int x :: S) (rz_mk h ι, w) = rg Z d rx_m117 48 L (.int (x + y) :: S) (rz_mk h ι, w) := rz_s1 fun _ => rfl
theorem g117_48 : rg Z d rx_m117 48 L [.int x] (rz_mk h ι, w) = some (.inl (some (.int x)), (rz_mk h ι, w)) := rz_reti rfl rfl rfl
theorem g117_49 : rg Z d rx_m117 49 [some (.ref a), l1, l2] S (rz_mk h ι, w) = rg Z d rx_m117 50 [some (.ref a), l1, l2] (.ref a :: S) (rz_mk h ι, w) := rz_s1 fun _ => rfl
theorem g117_50 : rg Z d rx_m117 50 [l0, l1, some (.int x)] S (rz_mk h ι, w) = rg Z d rx_m117 51 [l0, l1, some (.int x)] (.int x :: S) (rz_mk h ι, w) := rz_s1 fun _ => rfl
theorem g117_51 (c : rz_fI h a 10 5) (hz : Z.2.1 ≤ a) : rg Z d rx_m117 51 L (.int x :: .ref a :: S) (rz_mk h ι, w) = rg Z d rx_m117 54 L S (rz_mk h (rz_up ι a 5 x), w) := rz_pI rfl c hz
theorem g117_54 : rg Z d rx_m117 54 [l0, some (.int x), l2] S (rz_mk h ι, w) = rg Z d rx_m117 55 [l0, some (.int x), l2] (.int x :: S) (rz_mk h ι, w) := rz_s1 fun _ => rfl
theorem g117_55 : rg Z d rx_m117 55 L S (rz_mk h ι, w) = rg Z d rx_m117 56 L (.int 1 :: S) (rz_mk h ι, w) := rz_s1 fun _ => rfl
theorem g117_56 : rg Z d rx_m117 56 L (.int y :: .int x :: S) (rz_mk h ι, w) = rg Z d rx_m117 57 L (.int (x + y) :: S) (rz_mk h ι, w) := rz_s1 fun _ => rfl
theorem g117_57 : rg Z d rx_m117 57 L [.int x] (rz_mk h ι, w) = some (.inl (some (.int x)), (rz_mk h ι, w)) := rz_reti rfl rfl rfl
theorem e117 : rz_f Z (d + 1) 117 [.ref t0, .int s1] σ = rg Z d rx_m117 0 [some (.ref t0), some (.int s1), none] [] σ := rz_f_eq rfl (Nat.le_of_ble_eq_true rfl)
theorem g118_0 : rg Z d rx_m118 0 [some (.ref a), l1, l2, l3, l4, l5] S (rz_mk h ι, w) = rg Z d rx_m118 1 [some (.ref a), l1, l2, l3, l4, l5] (.ref a :: S) (rz_mk h ι, w) := rz_s1 fun _ => rfl
theorem g118_1 : rg Z d rx_m118 1 [l0, l1, l2, some (.int x), l4, l5] S (rz_mk h ι, w) = rg Z d rx_m118 2 [l0, l1, l2, some (.int x), l4, l5] (.int x :: S) (rz_mk h ι, w) := rz_s1 fun _ => rfl
theorem g118_2 : rg Z d rx_m118 2 L S (rz_mk h ι, w) = rg Z d rx_m118 3 L (.int 1 :: S) (rz_mk h ι, w) := rz_s1 fun _ => rfl
theorem g118_3 (c : rz_oc h a 10) : rg Z d rx_m118 3 L (v2 :: v1 :: .ref a :: []) (rz_mk h ι, w) = rz_k true (rz_f Z d 113 [.ref a, v1, v2] (rz_mk h ι, w)) (fun v σ' => rg Z d rx_m118 6 L (v.toList ++ []) σ') := rz_cv (pc := 3) (n := 2) (mi := 113) (S := v2 :: v1 :: .ref a :: []) (rest := []) rfl rfl (Nat.le_of_ble_eq_true rfl) (Nat.le_of_ble_eq_true rfl) c
theorem g118_6 : rg Z d rx_m118 6 [l0, l1, l2, l3, some (.int z), l5] (.int x :: S) (rz_mk h ι, w) = rg Z d rx_m118 8 [l0, l1, l2, l3, some (.int z), some (.int x)] S (rz_mk h ι, w) := rz_s1 fun _ => rfl
theorem g118_8 : rg Z d rx_m118 8 [l0, l1, l2, l3, some (.int x), l5] S (rz_mk h ι, w) = rg Z d rx_m118 10 [l0, l1, l2, l3, some (.int x), l5] (.int x :: S) (rz_mk h ι, w) := rz_s1 fun _ => rfl
theorem g118_10 : rg Z d rx_m118 10 L (.int x :: S) (rz_mk h ι, w) = if x = 0 then rg Z d rx_m118 40 L S (rz_mk h ι, w) else if x = 1 then rg Z d rx_m118 59 L S (rz_mk h ι, w) else if x = 2 then rg Z d rx_m118 66 L S (rz_mk h ι, w) else if x = 3 then rg Z d rx_m118 79 L S (rz_mk h ι, w) else rg Z d rx_m118 87 L S (rz_mk h ι, w) := by
  by_cases c0 : x = 0
  · rw [if_pos c0, c0]; exact rz_s1 fun _ => rfl
  rw [if_neg c0]
  by_cases c1 : x = 1
  · rw [if_pos c1, c1]; exact rz_s1 fun _ => rfl
  rw [if_neg c1]
  by_cases c2 : x = 2
  · rw [if_pos c2, c2]; exact rz_s1 fun _ => rfl
  rw [if_neg c2]
  by_cases c3 : x = 3
  · rw [if_pos c3, c3]; exact rz_s1 fun _ => rfl
  rw [if_neg c3]
  refine rz_s1 fun c => ?_
  unfold rx_at1
  show ((if x.toInt < 0 ∨ 3 < x.toInt then rx_jmp _ _ _ _ else _) : rx_P).map _ = _
  rw [if_pos]
  · rfl
  · apply Decidable.byContradiction
    intro hc
    have hn : x.toInt = 0 ∨ x.toInt = 1 ∨ x.toInt = 2 ∨ x.toInt = 3 := by omega
    rcases hn with hn | hn | hn | hn
    · exact c0 (Int32.toInt_inj.mp (hn.trans (by decide)))
    · exact c1 (Int32.toInt_inj.mp (hn.trans (by decide)))
    · exact c2 (Int32.toInt_inj.mp (hn.trans (by decide)))
    · exact c3 (Int32.toInt_inj.mp (hn.trans (by decide)))
theorem g118_40 : rg Z d rx_m118 40 [l0, some (.ref a), l2, l3, l4, l5] S (rz_mk h ι, w) = rg Z d rx_m118 41 [l0, some (.ref a), l2, l3, l4, l5] (.ref a :: S) (rz_mk h ι, w) := rz_s1 fun _ => rfl
theorem g118_41 : rg Z d rx_m118 41 [l0, l1, l2, l3, l4, some (.int x)] S (rz_mk h ι, w) = rg Z d rx_m118 43 [l0, l1, l2, l3, l4, some (.int x)] (.int x :: S) (rz_mk h ι, w) := rz_s1 fun _ => rfl
theorem g118_43 : rg Z d rx_m118 43 [some (.ref a), l1, l2, l3, l4, l5] S (rz_mk h ι, w) = rg Z d rx_m118 44 [some (.ref a), l1, l2, l3, l4, l5] (.ref a :: S) (rz_mk h ι, w) := rz_s1 fun _ => rfl
theorem g118_44 : rg Z d rx_m118 44 [l0, l1, l2, some (.int x), l4, l5] S (rz_mk h ι, w) = rg Z d rx_m118 45 [l0, l1, l2, some (.int x), l4, l5] (.int x :: S) (rz_mk h ι, w) := rz_s1 fun _ => rfl
theorem g118_45 : rg Z d rx_m118 45 L S (rz_mk h ι, w) = rg Z d rx_m118 46 L (.int 2 :: S) (rz_mk h ι, w) := rz_s1 fun _ => rfl
theorem g118_46 (c : rz_oc h a 10) : rg Z d rx_m118 46 L (v2 :: v1 :: .ref a :: [.int s0, .ref t1]) (rz_mk h ι, w) = rz_k true (rz_f Z d 113 [.ref a, v1, v2] (rz_mk h ι, w)) (fun v σ' => rg Z d rx_m118 49 L (v.toList ++ [.int s0, .ref t1]) σ') := rz_cv (pc := 46) (n := 2) (mi := 113) (S := v2 :: v1 :: .ref a :: [.int s0, .ref t1]) (rest := [.int s0, .ref t1]) rfl rfl (Nat.le_of_ble_eq_true rfl) (Nat.le_of_ble_eq_true rfl) c
theorem g118_49 : rg Z d rx_m118 49 [some (.ref a), l1, l2, l3, l4, l5] S (rz_mk h ι, w) = rg Z d rx_m118 50 [some (.ref a), l1, l2, l3, l4, l5] (.ref a :: S) (rz_mk h ι, w) := rz_s1 fun _ => rfl
theorem g118_50 : rg Z d rx_m118 50 [l0, l1, l2, some (.int x), l4, l5] S (rz_mk h ι, w) = rg Z d rx_m118 51 [l0, l1, l2, some (.int x), l4, l5] (.int x :: S) (rz_mk h ι, w) := rz_s1 fun _ => rfl
theorem g118_51 : rg Z d rx_m118 51 L S (rz_mk h ι, w) = rg Z d rx_m118 52 L (.int 3 :: S) (rz_mk h ι, w) := rz_s1 fun _ => rfl
theorem g118_52 (c : rz_oc h a 10) : rg Z d rx_m118 52 L (v2 :: v1 :: .ref a :: [.int s0, .int s1, .ref t2]) (rz_mk h ι, w) = rz_k true (rz_f Z d 113 [.ref a, v1, v2] (rz_mk h ι, w)) (fun v σ' => rg Z d rx_m118 55 L (v.toList ++ [.int s0, .int s1, .ref t2]) σ') := rz_cv (pc := 52) (n := 2) (mi := 113) (S := v2 :: v1 :: .ref a :: [.int s0, .int s1, .ref t2]) (rest := [.int s0, .int s1, .ref t2]) rfl rfl (Nat.le_of_ble_eq_true rfl) (Nat.le_of_ble_eq_true rfl) c
theorem g118_55 (c : rz_oc h a 8) : rg Z d rx_m118 55 L (v3 :: v2 :: v1 :: .ref a :: []) (rz_mk h ι, w) = rz_k true (rz_f Z d 81 [.ref a, v1, v2, v3] (rz_mk h ι, w)) (fun v σ' => rg Z d rx_m118 58 L (v.toList ++ []) σ') := rz_cv (pc := 55) (n := 3) (mi := 81) (S := v3 :: v2 :: v1 :: .ref a :: []) (rest := []) rfl rfl (Nat.le_of_ble_eq_true rfl) (Nat.le_of_ble_eq_true rfl) c
theorem g118_58 (c : narrow .boolean (.int x) = .int x) : rg Z d rx_m118 58 L [.int x] (rz_mk h ι, w) = some (.inl (some (.int x)), (rz_mk h ι, w)) := rz_reti rfl rfl c
theorem g118_59 : rg Z d rx_m118 59 [l0, some (.ref a), l2, l3, l4, l5] S (rz_mk h ι, w) = rg Z d rx_m118 60 [l0, some (.ref a), l2, l3, l4, l5] (.ref a :: S) (rz_mk h ι, w) := rz_s1 fun _ => rfl
theorem g118_60 : rg Z d rx_m118 60 [l0, l1, l2, l3, l4, some (.int x)] S (rz_mk h ι, w) = rg Z d rx_m118 62 [l0, l1, l2, l3, l4, some (.int x)] (.int x :: S) (rz_mk h ι, w) := rz_s1 fun _ => rfl
theorem g118_62 (c : rz_oc h a 8) : rg Z d rx_m118 62 L (v1 :: .ref a :: []) (rz_mk h ι, w) = rz_k true (rz_f Z d 82 [.ref a, v1] (rz_mk h ι, w)) (fun v σ' => rg Z d rx_m118 65 L (v.toList ++ []) σ') := rz_cv (pc := 62) (n := 1) (mi := 82) (S := v1 :: .ref a :: []) (rest := []) rfl rfl (Nat.le_of_ble_eq_true rfl) (Nat.le_of_ble_eq_true rfl) c
theorem g118_65 (c : narrow .boolean (.int x) = .int x) : rg Z d rx_m118 65 L [.int x] (rz_mk h ι, w) = some (.inl (some (.int x)), (rz_mk h ι, w)) := rz_reti rfl rfl c
theorem g118_66 : rg Z d rx_m118 66 [l0, some (.ref a), l2, l3, l4, l5] S (rz_mk h ι, w) = rg Z d rx_m118 67 [l0, some (.ref a), l2, l3, l4, l5] (.ref a :: S) (rz_mk h ι, w) := rz_s1 fun _ => rfl
theorem g118_67 : rg Z d rx_m118 67 [l0, l1, l2, l3, l4, some (.int x)] S (rz_mk h ι, w) = rg Z d rx_m118 69 [l0, l1, l2, l3, l4, some (.int x)] (.int x :: S) (rz_mk h ι, w) := rz_s1 fun _ => rfl
theorem g118_69 : rg Z d rx_m118 69 [some (.ref a), l1, l2, l3, l4, l5] S (rz_mk h ι, w) = rg Z d rx_m118 70 [some (.ref a), l1, l2, l3, l4, l5] (.ref a :: S) (rz_mk h ι, w) := rz_s1 fun _ => rfl
theorem g118_70 : rg Z d rx_m118 70 [l0, l1, l2, some (.int x), l4, l5] S (rz_mk h ι, w) = rg Z d rx_m118 71 [l0, l1, l2, some (.int x), l4, l5] (.int x :: S) (rz_mk h ι, w) := rz_s1 fun _ => rfl
theorem g118_71 : rg Z d rx_m118 71 L S (rz_mk h ι, w) = rg Z d rx_m118 72 L (.int 2 :: S) (rz_mk h ι, w) := rz_s1 fun _ => rfl
theorem g118_72 (c : rz_oc h a 10) : rg Z d rx_m118 72 L (v2 :: v1 :: .ref a :: [.int s0, .ref t1]) (rz_mk h ι, w) = rz_k true (rz_f Z d 113 [.ref a, v1, v2] (rz_mk h ι, w)) (fun v σ' => rg Z d rx_m118 75 L (v.toList ++ [.int s0, .ref t1]) σ') := rz_cv (pc := 72) (n := 2) (mi := 113) (S := v2 :: v1 :: .ref a :: [.int s0, .ref t1]) (rest := [.int s0, .ref t1]) rfl rfl (Nat.le_of_ble_eq_true rfl) (Nat.le_of_ble_eq_true rfl) c
theorem g118_75 (c : rz_oc h a 8) : rg Z d rx_m118 75 L (v2 :: v1 :: .ref a :: []) (rz_mk h ι, w) = rz_k true (rz_f Z d 83 [.ref a, v1, v2] (rz_mk h ι, w)) (fun v σ' => rg Z d rx_m118 78 L (v.toList ++ []) σ') := rz_cv (pc := 75) (n := 2) (mi := 83) (S := v2 :: v1 :: .ref a :: []) (rest := []) rfl rfl (Nat.le_of_ble_eq_true rfl) (Nat.le_of_ble_eq_true rfl) c
theorem g118_78 (c : narrow .boolean (.int x) = .int x) : rg Z d rx_m118 78 L [.int x] (rz_mk h ι, w) = some (.inl (some (.int x)), (rz_mk h ι, w)) := rz_reti rfl rfl c
theorem g118_79 : rg Z d rx_m118 79 [l0, some (.ref a), l2, l3, l4, l5] S (rz_mk h ι, w) = rg Z d rx_m118 80 [l0, some (.ref a), l2, l3, l4, l5] (.ref a :: S) (rz_mk h ι, w) := rz_s1 fun _ => rfl
theorem g118_80 : rg Z d rx_m118 80 [l0, l1, l2, l3, l4, some (.int x)] S (rz_mk h ι, w) = rg Z d rx_m118 82 [l0, l1, l2, l3, l4, some (.int x)] (.int x :: S) (rz_mk h ι, w) := rz_s1 fun _ => rfl
theorem g118_82 : rg Z d rx_m118 82 [l0, l1, some (.ref a), l3, l4, l5] S (rz_mk h ι, w) = rg Z d rx_m118 83 [l0, l1, some (.ref a), l3, l4, l5] (.ref a :: S) (rz_mk h ι, w) := rz_s1 fun _ => rfl
theorem g118_83 (c : rz_oc h a 8) : rg Z d rx_m118 83 L (v2 :: v1 :: .ref a :: []) (rz_mk h ι, w) = rz_k true (rz_f Z d 84 [.ref a, v1, v2] (rz_mk h ι, w)) (fun v σ' => rg Z d rx_m118 86 L (v.toList ++ []) σ') := rz_cv (pc := 83) (n := 2) (mi := 84) (S := v2 :: v1 :: .ref a :: []) (rest := []) rfl rfl (Nat.le_of_ble_eq_true rfl) (Nat.le_of_ble_eq_true rfl) c
theorem g118_86 (c : narrow .boolean (.int x) = .int x) : rg Z d rx_m118 86 L [.int x] (rz_mk h ι, w) = some (.inl (some (.int x)), (rz_mk h ι, w)) := rz_reti rfl rfl c
theorem g118_87 : rg Z d rx_m118 87 [l0, some (.ref a), l2, l3, l4, l5] S (rz_mk h ι, w) = rg Z d rx_m118 88 [l0, some (.ref a), l2, l3, l4, l5] (.ref a :: S) (rz_mk h ι, w) := rz_s1 fun _ => rfl
theorem g118_88 (c : rz_oc h a 8) : rg Z d rx_m118 88 L (.ref a :: []) (rz_mk h ι, w) = rz_k true (rz_f Z d 85 [.ref a] (rz_mk h ι, w)) (fun v σ' => rg Z d rx_m118 91 L (v.toList ++ []) σ') := rz_cv (pc := 88) (n := 0) (mi := 85) (S := .ref a :: []) (rest := []) rfl rfl (Nat.le_of_ble_eq_true rfl) (Nat.le_of_ble_eq_true rfl) c
theorem g118_91 (c : narrow .boolean (.int x) = .int x) : rg Z d rx_m118 91 L [.int x] (rz_mk h ι, w) = some (.inl (some (.int x)), (rz_mk h ι, w)) := rz_reti rfl rfl c
theorem e118 : rz_f Z (d + 1) 118 [.ref t0, .ref t1, .ref t2, .int s3, .int s4] σ = rg Z d rx_m118 0 [some (.ref t0), some (.ref t1), some (.ref t2), some (.int s3), some (.int s4), none] [] σ := rz_f_eq rfl (Nat.le_of_ble_eq_true rfl)
theorem g119_0 : rg Z d rx_m119 0 [some (.ref a)] S (rz_mk h ι, w) = rg Z d rx_m119 1 [some (.ref a)] (.ref a :: S) (rz_mk h ι, w) := rz_s1 fun _ => rfl
theorem g119_1 : rg Z d rx_m119 1 L (.ref a :: []) (rz_mk h ι, w) = rg Z d rx_m119 4 L [] (rz_mk h ι, w) := rz_oi rfl (Nat.le_of_ble_eq_true rfl)
theorem g119_4 : rg Z d rx_m119 4 [some (.ref a)] S (rz_mk h ι, w) = rg Z d rx_m119 5 [some (.ref a)] (.ref a :: S) (rz_mk h ι, w) := rz_s1 fun _ => rfl
theorem g119_5 : rg Z d rx_m119 5 L S (rz_mk h ι, w) = rg Z d rx_m119 8 L (.ref w.1 :: S) (rz_mk (rx_up h w.1 (.inr (9, rx_df 9))) (rz_z ι w.1), w.1 + 1, w.2 + 7) := rz_nw rfl rfl
theorem g119_8 : rg Z d rx_m119 8 L (.ref a :: S) (rz_mk h ι, w) = rg Z d rx_m119 9 L (.ref a :: .ref a :: S) (rz_mk h ι, w) := rz_s1 fun _ => rfl
theorem g119_9 : rg Z d rx_m119 9 L (.ref a :: [.ref t0, .ref t1]) (rz_mk h ι, w) = rz_k false (rz_f Z d 87 [.ref a] (rz_mk h ι, w)) (fun v σ' => rg Z d rx_m119 12 L (v.toList ++ [.ref t0, .ref t1]) σ') := rz_ci (pc := 9) (n := 0) (mi := 87) (S := .ref a :: [.ref t0, .ref t1]) (rest := [.ref t0, .ref t1]) (by decide) rfl rfl (Nat.le_of_ble_eq_true rfl) (Nat.le_of_ble_eq_true rfl)
theorem g119_12 (c : rz_fR h a 11 0) (hv : rz_isr v = true) (hz : Z.2.1 ≤ a) : rg Z d rx_m119 12 L (v :: .ref a :: S) (rz_mk h ι, w) = rg Z d rx_m119 15 L S (rz_mk (rz_hs h a 0 v) ι, w) := rz_pR rfl c hv hz
theorem g119_15 : rg Z d rx_m119 15 [some (.ref a)] S (rz_mk h ι, w) = rg Z d rx_m119 16 [some (.ref a)] (.ref a :: S) (rz_mk h ι, w) := rz_s1 fun _ => rfl
theorem g119_16 : rg Z d rx_m119 16 L S (rz_mk h ι, w) = rg Z d rx_m119 19 L (.ref w.1 :: S) (rz_mk (rx_up h w.1 (.inr (3, rx_df 3))) (rz_z ι w.1), w.1 + 1, w.2 + 4) := rz_nw rfl rfl
theorem g119_19 : rg Z d rx_m119 19 L (.ref a :: S) (rz_mk h ι, w) = rg Z d rx_m119 20 L (.ref a :: .ref a :: S) (rz_mk h ι, w) := rz_s1 fun _ => rfl
theorem g119_20 : rg Z d rx_m119 20 [some (.ref a)] S (rz_mk h ι, w) = rg Z d rx_m119 21 [some (.ref a)] (.ref a :: S) (rz_mk h ι, w) := rz_s1 fun _ => rfl
theorem g119_21 (c : rz_fR h a 11 0) : rg Z d rx_m119 21 L (.ref a :: S) (rz_mk h ι, w) = rg Z d rx_m119 24 L (rz_rv h a 0 :: S) (rz_mk h ι, w) := rz_gR rfl (by decide) c
theorem g119_24 : rg Z d rx_m119 24 L (v1 :: .ref a :: [.ref t0, .ref t1]) (rz_mk h ι, w) = rz_k false (rz_f Z d 21 [.ref a, v1] (rz_mk h ι, w)) (fun v σ' => rg Z d rx_m119 27 L (v.toList ++ [.ref t0, .ref t1]) σ') := rz_ci (pc := 24) (n := 1) (mi := 21) (S := v1 :: .ref a :: [.ref t0, .ref t1]) (rest := [.ref t0, .ref t1]) (by decide) rfl rfl (Nat.le_of_ble_eq_true rfl) (Nat.le_of_ble_eq_true rfl)
theorem g119_27 (c : rz_fR h a 11 1) (hv : rz_isr v = true) (hz : Z.2.1 ≤ a) : rg Z d rx_m119 27 L (v :: .ref a :: S) (rz_mk h ι, w) = rg Z d rx_m119 30 L S (rz_mk (rz_hs h a 1 v) ι, w) := rz_pR rfl c hv hz
theorem g119_30 : rg Z d rx_m119 30 [some (.ref a)] S (rz_mk h ι, w) = rg Z d rx_m119 31 [some (.ref a)] (.ref a :: S) (rz_mk h ι, w) := rz_s1 fun _ => rfl
theorem g119_31 : rg Z d rx_m119 31 L S (rz_mk h ι, w) = rg Z d rx_m119 34 L (.ref w.1 :: S) (rz_mk (rx_up h w.1 (.inr (6, rx_df 6))) (rz_z ι w.1), w.1 + 1, w.2 + 2) := rz_nw rfl rfl
theorem g119_34 : rg Z d rx_m119 34 L (.ref a :: S) (rz_mk h ι, w) = rg Z d rx_m119 35 L (.ref a :: .ref a :: S) (rz_mk h ι, w) := rz_s1 fun _ => rfl
theorem g119_35 : rg Z d rx_m119 35 [some (.ref a)] S (rz_mk h ι, w) = rg Z d rx_m119 36 [some (.ref a)] (.ref a :: S) (rz_mk h ι, w) := rz_s1 fun _ => rfl
theorem g119_36 (c : rz_fR h a 11 0) : rg Z d rx_m119 36 L (.ref a :: S) (rz_mk h ι, w) = rg Z d rx_m119 39 L (rz_rv h a 0 :: S) (rz_mk h ι, w) := rz_gR rfl (by decide) c
theorem g119_39 : rg Z d rx_m119 39 L (v1 :: .ref a :: [.ref t0, .ref t1]) (rz_mk h ι, w) = rz_k false (rz_f Z d 53 [.ref a, v1] (rz_mk h ι, w)) (fun v σ' => rg Z d rx_m119 42 L (v.toList ++ [.ref t0, .ref t1]) σ') := rz_ci (pc := 39) (n := 1) (mi := 53) (S := v1 :: .ref a :: [.ref t0, .ref t1]) (rest := [.ref t0, .ref t1]) (by decide) rfl rfl (Nat.le_of_ble_eq_true rfl) (Nat.le_of_ble_eq_true rfl)
theorem g119_42 (c : rz_fR h a 11 2) (hv : rz_isr v = true) (hz : Z.2.1 ≤ a) : rg Z d rx_m119 42 L (v :: .ref a :: S) (rz_mk h ι, w) = rg Z d rx_m119 45 L S (rz_mk (rz_hs h a 2 v) ι, w) := rz_pR rfl c hv hz
theorem g119_45 : rg Z d rx_m119 45 [some (.ref a)] S (rz_mk h ι, w) = rg Z d rx_m119 46 [some (.ref a)] (.ref a :: S) (rz_mk h ι, w) := rz_s1 fun _ => rfl
theorem g119_46 : rg Z d rx_m119 46 L S (rz_mk h ι, w) = rg Z d rx_m119 49 L (.ref w.1 :: S) (rz_mk (rx_up h w.1 (.inr (10, rx_df 10))) (rz_z ι w.1), w.1 + 1, w.2 + 9) := rz_nw rfl rfl
theorem g119_49 : rg Z d rx_m119 49 L (.ref a :: S) (rz_mk h ι, w) = rg Z d rx_m119 50 L (.ref a :: .ref a :: S) (rz_mk h ι, w) := rz_s1 fun _ => rfl
theorem g119_50 : rg Z d rx_m119 50 [some (.ref a)] S (rz_mk h ι, w) = rg Z d rx_m119 51 [some (.ref a)] (.ref a :: S) (rz_mk h ι, w) := rz_s1 fun _ => rfl
theorem g119_51 (c : rz_fR h a 11 0) : rg Z d rx_m119 51 L (.ref a :: S) (rz_mk h ι, w) = rg Z d rx_m119 54 L (rz_rv h a 0 :: S) (rz_mk h ι, w) := rz_gR rfl (by decide) c
theorem g119_54 : rg Z d rx_m119 54 L (v1 :: .ref a :: [.ref t0, .ref t1]) (rz_mk h ι, w) = rz_k false (rz_f Z d 102 [.ref a, v1] (rz_mk h ι, w)) (fun v σ' => rg Z d rx_m119 57 L (v.toList ++ [.ref t0, .ref t1]) σ') := rz_ci (pc := 54) (n := 1) (mi := 102) (S := v1 :: .ref a :: [.ref t0, .ref t1]) (rest := [.ref t0, .ref t1]) (by decide) rfl rfl (Nat.le_of_ble_eq_true rfl) (Nat.le_of_ble_eq_true rfl)
theorem g119_57 (c : rz_fR h a 11 3) (hv : rz_isr v = true) (hz : Z.2.1 ≤ a) : rg Z d rx_m119 57 L (v :: .ref a :: S) (rz_mk h ι, w) = rg Z d rx_m119 60 L S (rz_mk (rz_hs h a 3 v) ι, w) := rz_pR rfl c hv hz
theorem g119_60 : rg Z d rx_m119 60 [some (.ref a)] S (rz_mk h ι, w) = rg Z d rx_m119 61 [some (.ref a)] (.ref a :: S) (rz_mk h ι, w) := rz_s1 fun _ => rfl
theorem g119_61 : rg Z d rx_m119 61 L S (rz_mk h ι, w) = rg Z d rx_m119 64 L (.ref w.1 :: S) (rz_mk (rx_up h w.1 (.inr (0, rx_df 0))) (rz_z ι w.1), w.1 + 1, w.2 + 3) := rz_nw rfl rfl
theorem g119_64 : rg Z d rx_m119 64 L (.ref a :: S) (rz_mk h ι, w) = rg Z d rx_m119 65 L (.ref a :: .ref a :: S) (rz_mk h ι, w) := rz_s1 fun _ => rfl
theorem g119_65 : rg Z d rx_m119 65 L (.ref a :: [.ref t0, .ref t1]) (rz_mk h ι, w) = rz_k false (rz_f Z d 0 [.ref a] (rz_mk h ι, w)) (fun v σ' => rg Z d rx_m119 68 L (v.toList ++ [.ref t0, .ref t1]) σ') := rz_ci (pc := 65) (n := 0) (mi := 0) (S := .ref a :: [.ref t0, .ref t1]) (rest := [.ref t0, .ref t1]) (by decide) rfl rfl (Nat.le_of_ble_eq_true rfl) (Nat.le_of_ble_eq_true rfl)
theorem g119_68 (c : rz_fR h a 11 4) (hv : rz_isr v = true) (hz : Z.2.1 ≤ a) : rg Z d rx_m119 68 L (v :: .ref a :: S) (rz_mk h ι, w) = rg Z d rx_m119 71 L S (rz_mk (rz_hs h a 4 v) ι, w) := rz_pR rfl c hv hz
theorem g119_71 : rg Z d rx_m119 71 [some (.ref a)] S (rz_mk h ι, w) = rg Z d rx_m119 72 [some (.ref a)] (.ref a :: S) (rz_mk h ι, w) := rz_s1 fun _ => rfl
theorem g119_72 : rg Z d rx_m119 72 L S (rz_mk h ι, w) = rg Z d rx_m119 75 L (.ref w.1 :: S) (rz_mk (rx_up h w.1 (.inr (2, rx_df 2))) (rz_z ι w.1), w.1 + 1, w.2 + 6) := rz_nw rfl rfl
theorem g119_75 : rg Z d rx_m119 75 L (.ref a :: S) (rz_mk h ι, w) = rg Z d rx_m119 76 L (.ref a :: .ref a :: S) (rz_mk h ι, w) := rz_s1 fun _ => rfl
theorem g119_76 : rg Z d rx_m119 76 L (.ref a :: [.ref t0, .ref t1]) (rz_mk h ι, w) = rz_k false (rz_f Z d 9 [.ref a] (rz_mk h ι, w)) (fun v σ' => rg Z d rx_m119 79 L (v.toList ++ [.ref t0, .ref t1]) σ') := rz_ci (pc := 76) (n := 0) (mi := 9) (S := .ref a :: [.ref t0, .ref t1]) (rest := [.ref t0, .ref t1]) (by decide) rfl rfl (Nat.le_of_ble_eq_true rfl) (Nat.le_of_ble_eq_true rfl)
theorem g119_79 (c : rz_fR h a 11 5) (hv : rz_isr v = true) (hz : Z.2.1 ≤ a) : rg Z d rx_m119 79 L (v :: .ref a :: S) (rz_mk h ι, w) = rg Z d rx_m119 82 L S (rz_mk (rz_hs h a 5 v) ι, w) := rz_pR rfl c hv hz
theorem g119_82 : rg Z d rx_m119 82 [some (.ref a)] S (rz_mk h ι, w) = rg Z d rx_m119 83 [some (.ref a)] (.ref a :: S) (rz_mk h ι, w) := rz_s1 fun _ => rfl
theorem g119_83 : rg Z d rx_m119 83 L S (rz_mk h ι, w) = rg Z d rx_m119 86 L (.ref w.1 :: S) (rz_mk (rx_up h w.1 (.inr (4, rx_df 4))) (rz_z ι w.1), w.1 + 1, w.2 + 6) := rz_nw rfl rfl
theorem g119_86 : rg Z d rx_m119 86 L (.ref a :: S) (rz_mk h ι, w) = rg Z d rx_m119 87 L (.ref a :: .ref a :: S) (rz_mk h ι, w) := rz_s1 fun _ => rfl
theorem g119_87 : rg Z d rx_m119 87 L (.ref a :: [.ref t0, .ref t1]) (rz_mk h ι, w) = rz_k false (rz_f Z d 28 [.ref a] (rz_mk h ι, w)) (fun v σ' => rg Z d rx_m119 90 L (v.toList ++ [.ref t0, .ref t1]) σ') := rz_ci (pc := 87) (n := 0) (mi := 28) (S := .ref a :: [.ref t0, .ref t1]) (rest := [.ref t0, .ref t1]) (by decide) rfl rfl (Nat.le_of_ble_eq_true rfl) (Nat.le_of_ble_eq_true rfl)
theorem g119_90 (c : rz_fR h a 11 6) (hv : rz_isr v = true) (hz : Z.2.1 ≤ a) : rg Z d rx_m119 90 L (v :: .ref a :: S) (rz_mk h ι, w) = rg Z d rx_m119 93 L S (rz_mk (rz_hs h a 6 v) ι, w) := rz_pR rfl c hv hz
theorem g119_93 : rg Z d rx_m119 93 [some (.ref a)] S (rz_mk h ι, w) = rg Z d rx_m119 94 [some (.ref a)] (.ref a :: S) (rz_mk h ι, w) := rz_s1 fun _ => rfl
theorem g119_94 : rg Z d rx_m119 94 L S (rz_mk h ι, w) = rg Z d rx_m119 97 L (.ref w.1 :: S) (rz_mk (rx_up h w.1 (.inr (8, rx_df 8))) (rz_z ι w.1), w.1 + 1, w.2 + 9) := rz_nw rfl rfl
theorem g119_97 : rg Z d rx_m119 97 L (.ref a :: S) (rz_mk h ι, w) = rg Z d rx_m119 98 L (.ref a :: .ref a :: S) (rz_mk h ι, w) := rz_s1 fun _ => rfl
theorem g119_98 : rg Z d rx_m119 98 L (.ref a :: [.ref t0, .ref t1]) (rz_mk h ι, w) = rz_k false (rz_f Z d 65 [.ref a] (rz_mk h ι, w)) (fun v σ' => rg Z d rx_m119 101 L (v.toList ++ [.ref t0, .ref t1]) σ') := rz_ci (pc := 98) (n := 0) (mi := 65) (S := .ref a :: [.ref t0, .ref t1]) (rest := [.ref t0, .ref t1]) (by decide) rfl rfl (Nat.le_of_ble_eq_true rfl) (Nat.le_of_ble_eq_true rfl)
theorem g119_101 (c : rz_fR h a 11 7) (hv : rz_isr v = true) (hz : Z.2.1 ≤ a) : rg Z d rx_m119 101 L (v :: .ref a :: S) (rz_mk h ι, w) = rg Z d rx_m119 104 L S (rz_mk (rz_hs h a 7 v) ι, w) := rz_pR rfl c hv hz
theorem g119_104 : rg Z d rx_m119 104 [some (.ref a)] S (rz_mk h ι, w) = rg Z d rx_m119 105 [some (.ref a)] (.ref a :: S) (rz_mk h ι, w) := rz_s1 fun _ => rfl
theorem g119_105 : rg Z d rx_m119 105 L S (rz_mk h ι, w) = rg Z d rx_m119 108 L (.ref w.1 :: S) (rz_mk (rx_up h w.1 (.inr (1, rx_df 1))) (rz_z ι w.1), w.1 + 1, w.2 + 1) := rz_nw rfl rfl
theorem g119_108 : rg Z d rx_m119 108 L (.ref a :: S) (rz_mk h ι, w) = rg Z d rx_m119 109 L (.ref a :: .ref a :: S) (rz_mk h ι, w) := rz_s1 fun _ => rfl
theorem g119_109 : rg Z d rx_m119 109 L (.ref a :: [.ref t0, .ref t1]) (rz_mk h ι, w) = rz_k false (rz_f Z d 6 [.ref a] (rz_mk h ι, w)) (fun v σ' => rg Z d rx_m119 112 L (v.toList ++ [.ref t0, .ref t1]) σ') := rz_ci (pc := 109) (n := 0) (mi := 6) (S := .ref a :: [.ref t0, .ref t1]) (rest := [.ref t0, .ref t1]) (by decide) rfl rfl (Nat.le_of_ble_eq_true rfl) (Nat.le_of_ble_eq_true rfl)
theorem g119_112 (c : rz_fR h a 11 8) (hv : rz_isr v = true) (hz : Z.2.1 ≤ a) : rg Z d rx_m119 112 L (v :: .ref a :: S) (rz_mk h ι, w) = rg Z d rx_m119 115 L S (rz_mk (rz_hs h a 8 v) ι, w) := rz_pR rfl c hv hz
theorem g119_115 : rg Z d rx_m119 115 [some (.ref a)] S (rz_mk h ι, w) = rg Z d rx_m119 116 [some (.ref a)] (.ref a :: S) (rz_mk h ι, w) := rz_s1 fun _ => rfl
theorem g119_116 : rg Z d rx_m119 116 L S (rz_mk h ι, w) = rg Z d rx_m119 117 L (.int 3 :: S) (rz_mk h ι, w) := rz_s1 fun _ => rfl
theorem g119_117 : rg Z d rx_m119 117 L (.int 3 :: S) (rz_mk h ι, w) = rg Z d rx_m119 120 L (.ref w.1 :: S) (rz_mk (rx_up h w.1 (.inl (2, 3, fun _ => .null))) (rz_z ι w.1), w.1 + 1, w.2 + 3) := rz_nwr rfl (by decide) (by decide)
theorem g119_120 (c : rz_fR h a 11 9) (hv : rz_isr v = true) (hz : Z.2.1 ≤ a) : rg Z d rx_m119 120 L (v :: .ref a :: S) (rz_mk h ι, w) = rg Z d rx_m119 123 L S (rz_mk (rz_hs h a 9 v) ι, w) := rz_pR rfl c hv hz
theorem g119_123 : rg Z d rx_m119 123 [some (.ref a)] S (rz_mk h ι, w) = rg Z d rx_m119 124 [some (.ref a)] (.ref a :: S) (rz_mk h ι, w) := rz_s1 fun _ => rfl
theorem g119_124 : rg Z d rx_m119 124 L S (rz_mk h ι, w) = rg Z d rx_m119 127 L (.ref w.1 :: S) (rz_mk (rx_up h w.1 (.inr (5, rx_df 5))) (rz_z ι w.1), w.1 + 1, w.2 + 4) := rz_nw rfl rfl
theorem g119_127 : rg Z d rx_m119 127 L (.ref a :: S) (rz_mk h ι, w) = rg Z d rx_m119 128 L (.ref a :: .ref a :: S) (rz_mk h ι, w) := rz_s1 fun _ => rfl
theorem g119_128 : rg Z d rx_m119 128 L (.ref a :: [.ref t0, .ref t1]) (rz_mk h ι, w) = rz_k false (rz_f Z d 40 [.ref a] (rz_mk h ι, w)) (fun v σ' => rg Z d rx_m119 131 L (v.toList ++ [.ref t0, .ref t1]) σ') := rz_ci (pc := 128) (n := 0) (mi := 40) (S := .ref a :: [.ref t0, .ref t1]) (rest := [.ref t0, .ref t1]) (by decide) rfl rfl (Nat.le_of_ble_eq_true rfl) (Nat.le_of_ble_eq_true rfl)
theorem g119_131 (c : rz_fR h a 11 10) (hv : rz_isr v = true) (hz : Z.2.1 ≤ a) : rg Z d rx_m119 131 L (v :: .ref a :: S) (rz_mk h ι, w) = rg Z d rx_m119 134 L S (rz_mk (rz_hs h a 10 v) ι, w) := rz_pR rfl c hv hz
theorem g119_134 : rg Z d rx_m119 134 [some (.ref a)] S (rz_mk h ι, w) = rg Z d rx_m119 135 [some (.ref a)] (.ref a :: S) (rz_mk h ι, w) := rz_s1 fun _ => rfl
theorem g119_135 : rg Z d rx_m119 135 L S (rz_mk h ι, w) = rg Z d rx_m119 138 L (.ref w.1 :: S) (rz_mk (rx_up h w.1 (.inr (8, rx_df 8))) (rz_z ι w.1), w.1 + 1, w.2 + 9) := rz_nw rfl rfl
theorem g119_138 : rg Z d rx_m119 138 L (.ref a :: S) (rz_mk h ι, w) = rg Z d rx_m119 139 L (.ref a :: .ref a :: S) (rz_mk h ι, w) := rz_s1 fun _ => rfl
theorem g119_139 : rg Z d rx_m119 139 L (.ref a :: [.ref t0, .ref t1]) (rz_mk h ι, w) = rz_k false (rz_f Z d 65 [.ref a] (rz_mk h ι, w)) (fun v σ' => rg Z d rx_m119 142 L (v.toList ++ [.ref t0, .ref t1]) σ') := rz_ci (pc := 139) (n := 0) (mi := 65) (S := .ref a :: [.ref t0, .ref t1]) (rest := [.ref t0, .ref t1]) (by decide) rfl rfl (Nat.le_of_ble_eq_true rfl) (Nat.le_of_ble_eq_true rfl)
theorem g119_142 (c : rz_fR h a 11 11) (hv : rz_isr v = true) (hz : Z.2.1 ≤ a) : rg Z d rx_m119 142 L (v :: .ref a :: S) (rz_mk h ι, w) = rg Z d rx_m119 145 L S (rz_mk (rz_hs h a 11 v) ι, w) := rz_pR rfl c hv hz
theorem g119_145 : rg Z d rx_m119 145 [some (.ref a)] S (rz_mk h ι, w) = rg Z d rx_m119 146 [some (.ref a)] (.ref a :: S) (rz_mk h ι, w) := rz_s1 fun _ => rfl
theorem g119_146 : rg Z d rx_m119 146 L S (rz_mk h ι, w) = rg Z d rx_m119 147 L (.null :: S) (rz_mk h ι, w) := rz_s1 fun _ => rfl
theorem g119_147 (c : rz_fR h a 11 12) (hv : rz_isr v = true) (hz : Z.2.1 ≤ a) : rg Z d rx_m119 147 L (v :: .ref a :: S) (rz_mk h ι, w) = rg Z d rx_m119 150 L S (rz_mk (rz_hs h a 12 v) ι, w) := rz_pR rfl c hv hz
theorem g119_150 : rg Z d rx_m119 150 [some (.ref a)] S (rz_mk h ι, w) = rg Z d rx_m119 151 [some (.ref a)] (.ref a :: S) (rz_mk h ι, w) := rz_s1 fun _ => rfl
theorem g119_151 : rg Z d rx_m119 151 L S (rz_mk h ι, w) = rg Z d rx_m119 152 L (.int 0 :: S) (rz_mk h ι, w) := rz_s1 fun _ => rfl
theorem g119_152 (c : rz_fI h a 11 13) (hz : Z.2.1 ≤ a) : rg Z d rx_m119 152 L (.int x :: .ref a :: S) (rz_mk h ι, w) = rg Z d rx_m119 155 L S (rz_mk h (rz_up ι a 13 x), w) := rz_pI rfl c hz
theorem g119_155 : rg Z d rx_m119 155 [some (.ref a)] S (rz_mk h ι, w) = rg Z d rx_m119 156 [some (.ref a)] (.ref a :: S) (rz_mk h ι, w) := rz_s1 fun _ => rfl
theorem g119_156 : rg Z d rx_m119 156 L S (rz_mk h ι, w) = rg Z d rx_m119 158 L (.int 10 :: S) (rz_mk h ι, w) := rz_s1 fun _ => rfl
theorem g119_158 (c : rz_fI h a 11 14) (hz : Z.2.1 ≤ a) : rg Z d rx_m119 158 L (.int x :: .ref a :: S) (rz_mk h ι, w) = rg Z d rx_m119 161 L S (rz_mk h (rz_up ι a 14 x), w) := rz_pI rfl c hz
theorem g119_161 : rg Z d rx_m119 161 [some (.ref a)] S (rz_mk h ι, w) = rg Z d rx_m119 162 [some (.ref a)] (.ref a :: S) (rz_mk h ι, w) := rz_s1 fun _ => rfl
theorem g119_162 : rg Z d rx_m119 162 L S (rz_mk h ι, w) = rg Z d rx_m119 163 L (.int 0 :: S) (rz_mk h ι, w) := rz_s1 fun _ => rfl
theorem g119_163 (c : rz_fI h a 11 15) (hz : Z.2.1 ≤ a) : rg Z d rx_m119 163 L (.int x :: .ref a :: S) (rz_mk h ι, w) = rg Z d rx_m119 166 L S (rz_mk h (rz_up ι a 15 x), w) := rz_pI rfl c hz
theorem g119_166 : rg Z d rx_m119 166 [some (.ref a)] S (rz_mk h ι, w) = rg Z d rx_m119 167 [some (.ref a)] (.ref a :: S) (rz_mk h ι, w) := rz_s1 fun _ => rfl
theorem g119_167 : rg Z d rx_m119 167 L S (rz_mk h ι, w) = rg Z d rx_m119 168 L (.int 0 :: S) (rz_mk h ι, w) := rz_s1 fun _ => rfl
theorem g119_168 (c : rz_fI h a 11 16) (hz : Z.2.1 ≤ a) : rg Z d rx_m119 168 L (.int x :: .ref a :: S) (rz_mk h ι, w) = rg Z d rx_m119 171 L S (rz_mk h (rz_up ι a 16 x), w) := rz_pI rfl c hz
theorem g119_171 : rg Z d rx_m119 171 [some (.ref a)] S (rz_mk h ι, w) = rg Z d rx_m119 172 [some (.ref a)] (.ref a :: S) (rz_mk h ι, w) := rz_s1 fun _ => rfl
theorem g119_172 : rg Z d rx_m119 172 L S (rz_mk h ι, w) = rg Z d rx_m119 173 L (.int 0 :: S) (rz_mk h ι, w) := rz_s1 fun _ => rfl
theorem g119_173 (c : rz_fI h a 11 17) (hz : Z.2.1 ≤ a) : rg Z d rx_m119 173 L (.int x :: .ref a :: S) (rz_mk h ι, w) = rg Z d rx_m119 176 L S (rz_mk h (rz_up ι a 17 x), w) := rz_pI rfl c hz
theorem g119_176 : rg Z d rx_m119 176 L [] (rz_mk h ι, w) = some (.inl none, (rz_mk h ι, w)) := rz_r1 fun _ => rfl
theorem e119 : rz_f Z (d + 1) 119 [.ref t0] σ = rg Z d rx_m119 0 [some (.ref t0)] [] σ := rz_f_eq rfl (Nat.le_of_ble_eq_true rfl)
theorem g120_0 : rg Z d rx_m120 0 [some (.ref a), l1, l2, l3, l4, l5] S (rz_mk h ι, w) = rg Z d rx_m120 1 [some (.ref a), l1, l2, l3, l4, l5] (.ref a :: S) (rz_mk h ι, w) := rz_s1 fun _ => rfl
theorem g120_1 (c : rz_fR h a 11 0) : rg Z d rx_m120 1 L (.ref a :: S) (rz_mk h ι, w) = rg Z d rx_m120 4 L (rz_rv h a 0 :: S) (rz_mk h ι, w) := rz_gR rfl (by decide) c
theorem g120_4 (c : rz_fI h a 9 5) : rg Z d rx_m120 4 L (.ref a :: S) (rz_mk h ι, w) = rg Z d rx_m120 7 L (.int (ι a 5) :: S) (rz_mk h ι, w) := rz_gI rfl (by decide) c
theorem g120_7 : rg Z d rx_m120 7 L S (rz_mk h ι, w) = rg Z d rx_m120 9 L (.int 20 :: S) (rz_mk h ι, w) := rz_s1 fun _ => rfl
theorem g120_9 : rg Z d rx_m120 9 L (.int y :: .int x :: S) (rz_mk h ι, w) = rg Z d rx_m120 10 L (.int (x + y) :: S) (rz_mk h ι, w) := rz_s1 fun _ => rfl
theorem g120_10 : rg Z d rx_m120 10 L S (rz_mk h ι, w) = rg Z d rx_m120 13 L (.int 600 :: S) (rz_mk h ι, w) := rz_s1 fun _ => rfl
theorem g120_13 : rg Z d rx_m120 13 L (.int y :: .int x :: S) (rz_mk h ι, w) = if y < x then rg Z d rx_m120 16 L S (rz_mk h ι, w) else rg Z d rx_m120 18 L S (rz_mk h ι, w) := rz_if2 (pc := 13) (t := 18) (off := 5) (cc := .le) (by decide) rfl
theorem g120_16 : rg Z d rx_m120 16 L S (rz_mk h ι, w) = rg Z d rx_m120 17 L (.int (-1) :: S) (rz_mk h ι, w) := rz_s1 fun _ => rfl
theorem g120_17 : rg Z d rx_m120 17 L [.int x] (rz_mk h ι, w) = some (.inl (some (.int x)), (rz_mk h ι, w)) := rz_reti rfl rfl rfl
theorem g120_18 : rg Z d rx_m120 18 [some (.ref a), l1, l2, l3, l4, l5] S (rz_mk h ι, w) = rg Z d rx_m120 19 [some (.ref a), l1, l2, l3, l4, l5] (.ref a :: S) (rz_mk h ι, w) := rz_s1 fun _ => rfl
theorem g120_19 (c : rz_fR h a 11 0) : rg Z d rx_m120 19 L (.ref a :: S) (rz_mk h ι, w) = rg Z d rx_m120 22 L (rz_rv h a 0 :: S) (rz_mk h ι, w) := rz_gR rfl (by decide) c
theorem g120_22 : rg Z d rx_m120 22 [l0, some (.int x), l2, l3, l4, l5] S (rz_mk h ι, w) = rg Z d rx_m120 23 [l0, some (.int x), l2, l3, l4, l5] (.int x :: S) (rz_mk h ι, w) := rz_s1 fun _ => rfl
theorem g120_23 (c : rz_oc h a 9) : rg Z d rx_m120 23 L (v1 :: .ref a :: []) (rz_mk h ι, w) = rz_k true (rz_f Z d 88 [.ref a, v1] (rz_mk h ι, w)) (fun v σ' => rg Z d rx_m120 26 L (v.toList ++ []) σ') := rz_cv (pc := 23) (n := 1) (mi := 88) (S := v1 :: .ref a :: []) (rest := []) rfl rfl (Nat.le_of_ble_eq_true rfl) (Nat.le_of_ble_eq_true rfl) c
theorem g120_26 : rg Z d rx_m120 26 [some (.ref a), l1, l2, l3, l4, l5] S (rz_mk h ι, w) = rg Z d rx_m120 27 [some (.ref a), l1, l2, l3, l4, l5] (.ref a :: S) (rz_mk h ι, w) := rz_s1 fun _ => rfl
theorem g120_27 (c : rz_fR h a 11 0) : rg Z d rx_m120 27 L (.ref a :: S) (rz_mk h ι, w) = rg Z d rx_m120 30 L (rz_rv h a 0 :: S) (rz_mk h ι, w) := rz_gR rfl (by decide) c
theorem g120_30 : rg Z d rx_m120 30 [l0, l1, some (.int x), l3, l4, l5] S (rz_mk h ι, w) = rg Z d rx_m120 31 [l0, l1, some (.int x), l3, l4, l5] (.int x :: S) (rz_mk h ι, w) := rz_s1 fun _ => rfl
theorem g120_31 (c : rz_oc h a 9) : rg Z d rx_m120 31 L (v1 :: .ref a :: []) (rz_mk h ι, w) = rz_k true (rz_f Z d 88 [.ref a, v1] (rz_mk h ι, w)) (fun v σ' => rg Z d rx_m120 34 L (v.toList ++ []) σ') := rz_cv (pc := 31) (n := 1) (mi := 88) (S := v1 :: .ref a :: []) (rest := []) rfl rfl (Nat.le_of_ble_eq_true rfl) (Nat.le_of_ble_eq_true rfl) c
theorem g120_34 : rg Z d rx_m120 34 [some (.ref a), l1, l2, l3, l4, l5] S (rz_mk h ι, w) = rg Z d rx_m120 35 [some (.ref a), l1, l2, l3, l4, l5] (.ref a :: S) (rz_mk h ι, w) := rz_s1 fun _ => rfl
theorem g120_35 (c : rz_fR h a 11 0) : rg Z d rx_m120 35 L (.ref a :: S) (rz_mk h ι, w) = rg Z d rx_m120 38 L (rz_rv h a 0 :: S) (rz_mk h ι, w) := rz_gR rfl (by decide) c
theorem g120_38 : rg Z d rx_m120 38 [l0, l1, l2, some (.int x), l4, l5] S (rz_mk h ι, w) = rg Z d rx_m120 39 [l0, l1, l2, some (.int x), l4, l5] (.int x :: S) (rz_mk h ι, w) := rz_s1 fun _ => rfl
theorem g120_39 (c : rz_oc h a 9) : rg Z d rx_m120 39 L (v1 :: .ref a :: []) (rz_mk h ι, w) = rz_k true (rz_f Z d 88 [.ref a, v1] (rz_mk h ι, w)) (fun v σ' => rg Z d rx_m120 42 L (v.toList ++ []) σ') := rz_cv (pc := 39) (n := 1) (mi := 88) (S := v1 :: .ref a :: []) (rest := []) rfl rfl (Nat.le_of_ble_eq_true rfl) (Nat.le_of_ble_eq_true rfl) c
theorem g120_42 : rg Z d rx_m120 42 [some (.ref a), l1, l2, l3, l4, l5] S (rz_mk h ι, w) = rg Z d rx_m120 43 [some (.ref a), l1, l2, l3, l4, l5] (.ref a :: S) (rz_mk h ι, w) := rz_s1 fun _ => rfl
theorem g120_43 (c : rz_fR h a 11 0) : rg Z d rx_m120 43 L (.ref a :: S) (rz_mk h ι, w) = rg Z d rx_m120 46 L (rz_rv h a 0 :: S) (rz_mk h ι, w) := rz_gR rfl (by decide) c
theorem g120_46 : rg Z d rx_m120 46 [l0, l1, l2, l3, some (.int x), l5] S (rz_mk h ι, w) = rg Z d rx_m120 48 [l0, l1, l2, l3, some (.int x), l5] (.int x :: S) (rz_mk h ι, w) := rz_s1 fun _ => rfl
theorem g120_48 (c : rz_oc h a 9) : rg Z d rx_m120 48 L (v1 :: .ref a :: []) (rz_mk h ι, w) = rz_k true (rz_f Z d 88 [.ref a, v1] (rz_mk h ι, w)) (fun v σ' => rg Z d rx_m120 51 L (v.toList ++ []) σ') := rz_cv (pc := 48) (n := 1) (mi := 88) (S := v1 :: .ref a :: []) (rest := []) rfl rfl (Nat.le_of_ble_eq_true rfl) (Nat.le_of_ble_eq_true rfl) c
theorem g120_51 : rg Z d rx_m120 51 [some (.ref a), l1, l2, l3, l4, l5] S (rz_mk h ι, w) = rg Z d rx_m120 52 [some (.ref a), l1, l2, l3, l4, l5] (.ref a :: S) (rz_mk h ι, w) := rz_s1 fun _ => rfl
theorem g120_52 (c : rz_fR h a 11 0) : rg Z d rx_m120 52 L (.ref a :: S) (rz_mk h ι, w) = rg Z d rx_m120 55 L (rz_rv h a 0 :: S) (rz_mk h ι, w) := rz_gR rfl (by decide) c
theorem g120_55 : rg Z d rx_m120 55 [l0, l1, l2, l3, l4, some (.int x)] S (rz_mk h ι, w) = rg Z d rx_m120 57 [l0, l1, l2, l3, l4, some (.int x)] (.int x :: S) (rz_mk h ι, w) := rz_s1 fun _ => rfl
theorem g120_57 (c : rz_oc h a 9) : rg Z d rx_m120 57 L (v1 :: .ref a :: []) (rz_mk h ι, w) = rz_k true (rz_f Z d 88 [.ref a, v1] (rz_mk h ι, w)) (fun v σ' => rg Z d rx_m120 60 L (v.toList ++ []) σ') := rz_cv (pc := 57) (n := 1) (mi := 88) (S := v1 :: .ref a :: []) (rest := []) rfl rfl (Nat.le_of_ble_eq_true rfl) (Nat.le_of_ble_eq_true rfl) c
theorem g120_60 : rg Z d rx_m120 60 [some (.ref a), l1, l2, l3, l4, l5] S (rz_mk h ι, w) = rg Z d rx_m120 61 [some (.ref a), l1, l2, l3, l4, l5] (.ref a :: S) (rz_mk h ι, w) := rz_s1 fun _ => rfl
theorem g120_61 (c : rz_fR h a 11 0) : rg Z d rx_m120 61 L (.ref a :: S) (rz_mk h ι, w) = rg Z d rx_m120 64 L (rz_rv h a 0 :: S) (rz_mk h ι, w) := rz_gR rfl (by decide) c
theorem g120_64 (c : rz_fI h a 9 5) : rg Z d rx_m120 64 L (.ref a :: S) (rz_mk h ι, w) = rg Z d rx_m120 67 L (.int (ι a 5) :: S) (rz_mk h ι, w) := rz_gI rfl (by decide) c
theorem g120_67 : rg Z d rx_m120 67 L [.int x] (rz_mk h ι, w) = some (.inl (some (.int x)), (rz_mk h ι, w)) := rz_reti rfl rfl rfl
theorem e120 : rz_f Z (d + 1) 120 [.ref t0, .int s1, .int s2, .int s3, .int s4, .int s5] σ = rg Z d rx_m120 0 [some (.ref t0), some (.int s1), some (.int s2), some (.int s3), some (.int s4), some (.int s5)] [] σ := rz_f_eq rfl (Nat.le_of_ble_eq_true rfl)
theorem g121_0 : rg Z d rx_m121 0 [some (.ref a), l1, l2] S (rz_mk h ι, w) = rg Z d rx_m121 1 [some (.ref a), l1, l2] (.ref a :: S) (rz_mk h ι, w) := rz_s1 fun _ => rfl
theorem g121_1 : rg Z d rx_m121 1 [l0, some (.int x), l2] S (rz_mk h ι, w) = rg Z d rx_m121 2 [l0, some (.int x), l2] (.int x :: S) (rz_mk h ι, w) := rz_s1 fun _ => rfl
theorem g121_2 : rg Z d rx_m121 2 L S (rz_mk h ι, w) = rg Z d rx_m121 3 L (.int 0 :: S) (rz_mk h ι, w) := rz_s1 fun _ => rfl
theorem g121_3 : rg Z d rx_m121 3 [some (.ref a), l1, l2] S (rz_mk h ι, w) = rg Z d rx_m121 4 [some (.ref a), l1, l2] (.ref a :: S) (rz_mk h ι, w) := rz_s1 fun _ => rfl
theorem g121_4 (c : rz_fR h a 11 0) : rg Z d rx_m121 4 L (.ref a :: S) (rz_mk h ι, w) = rg Z d rx_m121 7 L (rz_rv h a 0 :: S) (rz_mk h ι, w) := rz_gR rfl (by decide) c
theorem g121_7 (c : rz_fI h a 9 5) : rg Z d rx_m121 7 L (.ref a :: S) (rz_mk h ι, w) = rg Z d rx_m121 10 L (.int (ι a 5) :: S) (rz_mk h ι, w) := rz_gI rfl (by decide) c
theorem g121_10 : rg Z d rx_m121 10 L (v3 :: v2 :: v1 :: [.ref t0]) (rz_mk h ι, w) = rz_k true (rz_f Z d 161 [v1, v2, v3] (rz_mk h ι, w)) (fun v σ' => rg Z d rx_m121 13 L (v.toList ++ [.ref t0]) σ') := rz_cs (pc := 10) (n := 3) (mi := 161) (S := v3 :: v2 :: v1 :: [.ref t0]) (rest := [.ref t0]) rfl rfl (Nat.le_of_ble_eq_true rfl) (Nat.le_of_ble_eq_true rfl)
theorem g121_13 (c : rz_oc h a 11) : rg Z d rx_m121 13 L (v1 :: .ref a :: []) (rz_mk h ι, w) = rz_k true (rz_f Z d 162 [.ref a, v1] (rz_mk h ι, w)) (fun v σ' => rg Z d rx_m121 16 L (v.toList ++ []) σ') := rz_cv (pc := 13) (n := 1) (mi := 162) (S := v1 :: .ref a :: []) (rest := []) rfl rfl (Nat.le_of_ble_eq_true rfl) (Nat.le_of_ble_eq_true rfl) c
theorem g121_16 : rg Z d rx_m121 16 [some (.ref a), l1, l2] S (rz_mk h ι, w) = rg Z d rx_m121 17 [some (.ref a), l1, l2] (.ref a :: S) (rz_mk h ι, w) := rz_s1 fun _ => rfl
theorem g121_17 (c : rz_fR h a 11 0) : rg Z d rx_m121 17 L (.ref a :: S) (rz_mk h ι, w) = rg Z d rx_m121 20 L (rz_rv h a 0 :: S) (rz_mk h ι, w) := rz_gR rfl (by decide) c
theorem g121_20 : rg Z d rx_m121 20 [l0, some (.int x), l2] S (rz_mk h ι, w) = rg Z d rx_m121 21 [l0, some (.int x), l2] (.int x :: S) (rz_mk h ι, w) := rz_s1 fun _ => rfl
theorem g121_21 (c : rz_oc h a 9) : rg Z d rx_m121 21 L (v1 :: .ref a :: []) (rz_mk h ι, w) = rz_k true (rz_f Z d 89 [.ref a, v1] (rz_mk h ι, w)) (fun v σ' => rg Z d rx_m121 24 L (v.toList ++ []) σ') := rz_cv (pc := 21) (n := 1) (mi := 89) (S := v1 :: .ref a :: []) (rest := []) rfl rfl (Nat.le_of_ble_eq_true rfl) (Nat.le_of_ble_eq_true rfl) c
theorem g121_24 : rg Z d rx_m121 24 L S (rz_mk h ι, w) = rg Z d rx_m121 27 L (.ref w.1 :: S) (rz_mk (rx_up h w.1 (.inr (8, rx_df 8))) (rz_z ι w.1), w.1 + 1, w.2 + 9) := rz_nw rfl rfl
theorem g121_27 : rg Z d rx_m121 27 L (.ref a :: S) (rz_mk h ι, w) = rg Z d rx_m121 28 L (.ref a :: .ref a :: S) (rz_mk h ι, w) := rz_s1 fun _ => rfl
theorem g121_28 : rg Z d rx_m121 28 L (.ref a :: [.ref t0]) (rz_mk h ι, w) = rz_k false (rz_f Z d 65 [.ref a] (rz_mk h ι, w)) (fun v σ' => rg Z d rx_m121 31 L (v.toList ++ [.ref t0]) σ') := rz_ci (pc := 28) (n := 0) (mi := 65) (S := .ref a :: [.ref t0]) (rest := [.ref t0]) (by decide) rfl rfl (Nat.le_of_ble_eq_true rfl) (Nat.le_of_ble_eq_true rfl)
theorem g121_31 : rg Z d rx_m121 31 [l0, some (.int z), l2] (.ref a :: S) (rz_mk h ι, w) = rg Z d rx_m121 32 [l0, some (.int z), some (.ref a)] S (rz_mk h ι, w) := rz_s1 fun _ => rfl
theorem g121_32 : rg Z d rx_m121 32 [some (.ref a), l1, l2] S (rz_mk h ι, w) = rg Z d rx_m121 33 [some (.ref a), l1, l2] (.ref a :: S) (rz_mk h ι, w) := rz_s1 fun _ => rfl
theorem g121_33 (c : rz_fR h a 11 1) : rg Z d rx_m121 33 L (.ref a :: S) (rz_mk h ι, w) = rg Z d rx_m121 36 L (rz_rv h a 1 :: S) (rz_mk h ι, w) := rz_gR rfl (by decide) c
theorem g121_36 : rg Z d rx_m121 36 [l0, l1, some (.ref a)] S (rz_mk h ι, w) = rg Z d rx_m121 37 [l0, l1, some (.ref a)] (.ref a :: S) (rz_mk h ι, w) := rz_s1 fun _ => rfl
theorem g121_37 (c : rz_oc h a 3) : rg Z d rx_m121 37 L (v1 :: .ref a :: []) (rz_mk h ι, w) = rz_k true (rz_f Z d 22 [.ref a, v1] (rz_mk h ι, w)) (fun v σ' => rg Z d rx_m121 40 L (v.toList ++ []) σ') := rz_cv (pc := 37) (n := 1) (mi := 22) (S := v1 :: .ref a :: []) (rest := []) rfl rfl (Nat.le_of_ble_eq_true rfl) (Nat.le_of_ble_eq_true rfl) c
theorem g121_40 : rg Z d rx_m121 40 L (.int x :: S) (rz_mk h ι, w) = if x = 0 then rg Z d rx_m121 43 L S (rz_mk h ι, w) else rg Z d rx_m121 51 L S (rz_mk h ι, w) := rz_if1 (pc := 40) (t := 51) (off := 11) (cc := .ne) (by decide) rfl
theorem g121_43 : rg Z d rx_m121 43 [some (.ref a), l1, l2] S (rz_mk h ι, w) = rg Z d rx_m121 44 [some (.ref a), l1, l2] (.ref a :: S) (rz_mk h ι, w) := rz_s1 fun _ => rfl
theorem g121_44 (c : rz_fR h a 11 0) : rg Z d rx_m121 44 L (.ref a :: S) (rz_mk h ι, w) = rg Z d rx_m121 47 L (rz_rv h a 0 :: S) (rz_mk h ι, w) := rz_gR rfl (by decide) c
theorem g121_47 (c : rz_oc h a 9) : rg Z d rx_m121 47 L (.ref a :: []) (rz_mk h ι, w) = rz_k true (rz_f Z d 90 [.ref a] (rz_mk h ι, w)) (fun v σ' => rg Z d rx_m121 50 L (v.toList ++ []) σ') := rz_cv (pc := 47) (n := 0) (mi := 90) (S := .ref a :: []) (rest := []) rfl rfl (Nat.le_of_ble_eq_true rfl) (Nat.le_of_ble_eq_true rfl) c
theorem g121_50 : rg Z d rx_m121 50 L [.int x] (rz_mk h ι, w) = some (.inl (some (.int x)), (rz_mk h ι, w)) := rz_reti rfl rfl rfl
theorem g121_51 : rg Z d rx_m121 51 [some (.ref a), l1, l2] S (rz_mk h ι, w) = rg Z d rx_m121 52 [some (.ref a), l1, l2] (.ref a :: S) (rz_mk h ι, w) := rz_s1 fun _ => rfl
theorem g121_52 : rg Z d rx_m121 52 [l0, l1, some (.ref a)] S (rz_mk h ι, w) = rg Z d rx_m121 53 [l0, l1, some (.ref a)] (.ref a :: S) (rz_mk h ι, w) := rz_s1 fun _ => rfl
theorem g121_53 (c : rz_fR h a 11 11) (hv : rz_isr v = true) (hz : Z.2.1 ≤ a) : rg Z d rx_m121 53 L (v :: .ref a :: S) (rz_mk h ι, w) = rg Z d rx_m121 56 L S (rz_mk (rz_hs h a 11 v) ι, w) := rz_pR rfl c hv hz
theorem g121_56 : rg Z d rx_m121 56 [some (.ref a), l1, l2] S (rz_mk h ι, w) = rg Z d rx_m121 57 [some (.ref a), l1, l2] (.ref a :: S) (rz_mk h ι, w) := rz_s1 fun _ => rfl
theorem g121_57 : rg Z d rx_m121 57 [some (.ref a), l1, l2] S (rz_mk h ι, w) = rg Z d rx_m121 58 [some (.ref a), l1, l2] (.ref a :: S) (rz_mk h ι, w) := rz_s1 fun _ => rfl
theorem g121_58 (c : rz_fR h a 11 1) : rg Z d rx_m121 58 L (.ref a :: S) (rz_mk h ι, w) = rg Z d rx_m121 61 L (rz_rv h a 1 :: S) (rz_mk h ι, w) := rz_gR rfl (by decide) c
theorem g121_61 (c : rz_fI h a 3 3) : rg Z d rx_m121 61 L (.ref a :: S) (rz_mk h ι, w) = rg Z d rx_m121 64 L (.int (ι a 3) :: S) (rz_mk h ι, w) := rz_gI rfl (by decide) c
theorem g121_64 (c : rz_fI h a 11 14) (hz : Z.2.1 ≤ a) : rg Z d rx_m121 64 L (.int x :: .ref a :: S) (rz_mk h ι, w) = rg Z d rx_m121 67 L S (rz_mk h (rz_up ι a 14 x), w) := rz_pI rfl c hz
theorem g121_67 : rg Z d rx_m121 67 [some (.ref a), l1, l2] S (rz_mk h ι, w) = rg Z d rx_m121 68 [some (.ref a), l1, l2] (.ref a :: S) (rz_mk h ι, w) := rz_s1 fun _ => rfl
theorem g121_68 (c : rz_fR h a 11 10) : rg Z d rx_m121 68 L (.ref a :: S) (rz_mk h ι, w) = rg Z d rx_m121 71 L (rz_rv h a 10 :: S) (rz_mk h ι, w) := rz_gR rfl (by decide) c
theorem g121_71 (c : rz_oc h a 5) : rg Z d rx_m121 71 L (.ref a :: []) (rz_mk h ι, w) = rz_k true (rz_f Z d 41 [.ref a] (rz_mk h ι, w)) (fun v σ' => rg Z d rx_m121 74 L (v.toList ++ []) σ') := rz_cv (pc := 71) (n := 0) (mi := 41) (S := .ref a :: []) (rest := []) rfl rfl (Nat.le_of_ble_eq_true rfl) (Nat.le_of_ble_eq_true rfl) c
theorem g121_74 : rg Z d rx_m121 74 [some (.ref a), l1, l2] S (rz_mk h ι, w) = rg Z d rx_m121 75 [some (.ref a), l1, l2] (.ref a :: S) (rz_mk h ι, w) := rz_s1 fun _ => rfl
theorem g121_75 (c : rz_fR h a 11 4) : rg Z d rx_m121 75 L (.ref a :: S) (rz_mk h ι, w) = rg Z d rx_m121 78 L (rz_rv h a 4 :: S) (rz_mk h ι, w) := rz_gR rfl (by decide) c
theorem g121_78 (c : rz_oc h a 0) : rg Z d rx_m121 78 L (.ref a :: []) (rz_mk h ι, w) = rz_k true (rz_f Z d 1 [.ref a] (rz_mk h ι, w)) (fun v σ' => rg Z d rx_m121 81 L (v.toList ++ []) σ') := rz_cv (pc := 78) (n := 0) (mi := 1) (S := .ref a :: []) (rest := []) rfl rfl (Nat.le_of_ble_eq_true rfl) (Nat.le_of_ble_eq_true rfl) c
theorem g121_81 : rg Z d rx_m121 81 [some (.ref a), l1, l2] S (rz_mk h ι, w) = rg Z d rx_m121 82 [some (.ref a), l1, l2] (.ref a :: S) (rz_mk h ι, w) := rz_s1 fun _ => rfl
theorem g121_82 : rg Z d rx_m121 82 L S (rz_mk h ι, w) = rg Z d rx_m121 83 L (.null :: S) (rz_mk h ι, w) := rz_s1 fun _ => rfl
theorem g121_83 (c : rz_fR h a 11 12) (hv : rz_isr v = true) (hz : Z.2.1 ≤ a) : rg Z d rx_m121 83 L (v :: .ref a :: S) (rz_mk h ι, w) = rg Z d rx_m121 86 L S (rz_mk (rz_hs h a 12 v) ι, w) := rz_pR rfl c hv hz
theorem g121_86 : rg Z d rx_m121 86 [some (.ref a), l1, l2] S (rz_mk h ι, w) = rg Z d rx_m121 87 [some (.ref a), l1, l2] (.ref a :: S) (rz_mk h ι, w) := rz_s1 fun _ => rfl
theorem g121_87 (c : rz_oc h a 11) : rg Z d rx_m121 87 L (.ref a :: []) (rz_mk h ι, w) = rz_k true (rz_f Z d 166 [.ref a] (rz_mk h ι, w)) (fun v σ' => rg Z d rx_m121 90 L (v.toList ++ []) σ') := rz_cv (pc := 87) (n := 0) (mi := 166) (S := .ref a :: []) (rest := []) rfl rfl (Nat.le_of_ble_eq_true rfl) (Nat.le_of_ble_eq_true rfl) c
theorem g121_90 : rg Z d rx_m121 90 [some (.ref a), l1, l2] S (rz_mk h ι, w) = rg Z d rx_m121 91 [some (.ref a), l1, l2] (.ref a :: S) (rz_mk h ι, w) := rz_s1 fun _ => rfl
theorem g121_91 : rg Z d rx_m121 91 L S (rz_mk h ι, w) = rg Z d rx_m121 92 L (.int 0 :: S) (rz_mk h ι, w) := rz_s1 fun _ => rfl
theorem g121_92 (c : rz_fI h a 11 15) (hz : Z.2.1 ≤ a) : rg Z d rx_m121 92 L (.int x :: .ref a :: S) (rz_mk h ι, w) = rg Z d rx_m121 95 L S (rz_mk h (rz_up ι a 15 x), w) := rz_pI rfl c hz
theorem g121_95 : rg Z d rx_m121 95 [some (.ref a), l1, l2] S (rz_mk h ι, w) = rg Z d rx_m121 96 [some (.ref a), l1, l2] (.ref a :: S) (rz_mk h ι, w) := rz_s1 fun _ => rfl
theorem g121_96 (c : rz_fR h a 11 11) : rg Z d rx_m121 96 L (.ref a :: S) (rz_mk h ι, w) = rg Z d rx_m121 99 L (rz_rv h a 11 :: S) (rz_mk h ι, w) := rz_gR rfl (by decide) c
theorem g121_99 (c : rz_fI h a 8 3) : rg Z d rx_m121 99 L (.ref a :: S) (rz_mk h ι, w) = rg Z d rx_m121 102 L (.int (ι a 3) :: S) (rz_mk h ι, w) := rz_gI rfl (by decide) c
theorem g121_102 : rg Z d rx_m121 102 L [.int x] (rz_mk h ι, w) = some (.inl (some (.int x)), (rz_mk h ι, w)) := rz_reti rfl rfl rfl
theorem e121 : rz_f Z (d + 1) 121 [.ref t0, .int s1] σ = rg Z d rx_m121 0 [some (.ref t0), some (.int s1), none] [] σ := rz_f_eq rfl (Nat.le_of_ble_eq_true rfl)
theorem g122_0 : rg Z d rx_m122 0 [some (.ref a), l1] S (rz_mk h ι, w) = rg Z d rx_m122 1 [some (.ref a), l1] (.ref a :: S) (rz_mk h ι, w) := rz_s1 fun _ => rfl
theorem g122_1 : rg Z d rx_m122 1 [l0, some (.int x)] S (rz_mk h ι, w) = rg Z d rx_m122 2 [l0, some (.int x)] (.int x :: S) (rz_mk h ι, w) := rz_s1 fun _ => rfl
theorem g122_2 : rg Z d rx_m122 2 L S (rz_mk h ι, w) = rg Z d rx_m122 5 L (.int 150 :: S) (rz_mk h ι, w) := rz_s1 fun _ => rfl
theorem g122_5 (c : rz_oc h a 11) : rg Z d rx_m122 5 L (v2 :: v1 :: .ref a :: []) (rz_mk h ι, w) = rz_k true (rz_f Z d 163 [.ref a, v1, v2] (rz_mk h ι, w)) (fun v σ' => rg Z d rx_m122 8 L (v.toList ++ []) σ') := rz_cv (pc := 5) (n := 2) (mi := 163) (S := v2 :: v1 :: .ref a :: []) (rest := []) rfl rfl (Nat.le_of_ble_eq_true rfl) (Nat.le_of_ble_eq_true rfl) c
theorem g122_8 : rg Z d rx_m122 8 [some (.ref a), l1] S (rz_mk h ι, w) = rg Z d rx_m122 9 [some (.ref a), l1] (.ref a :: S) (rz_mk h ι, w) := rz_s1 fun _ => rfl
theorem g122_9 (c : rz_fR h a 11 0) : rg Z d rx_m122 9 L (.ref a :: S) (rz_mk h ι, w) = rg Z d rx_m122 12 L (rz_rv h a 0 :: S) (rz_mk h ι, w) := rz_gR rfl (by decide) c
theorem g122_12 : rg Z d rx_m122 12 [l0, some (.int x)] S (rz_mk h ι, w) = rg Z d rx_m122 13 [l0, some (.int x)] (.int x :: S) (rz_mk h ι, w) := rz_s1 fun _ => rfl
theorem g122_13 (c : rz_oc h a 9) : rg Z d rx_m122 13 L (v1 :: .ref a :: []) (rz_mk h ι, w) = rz_k true (rz_f Z d 89 [.ref a, v1] (rz_mk h ι, w)) (fun v σ' => rg Z d rx_m122 16 L (v.toList ++ []) σ') := rz_cv (pc := 13) (n := 1) (mi := 89) (S := v1 :: .ref a :: []) (rest := []) rfl rfl (Nat.le_of_ble_eq_true rfl) (Nat.le_of_ble_eq_true rfl) c
theorem g122_16 : rg Z d rx_m122 16 [some (.ref a), l1] S (rz_mk h ι, w) = rg Z d rx_m122 17 [some (.ref a), l1] (.ref a :: S) (rz_mk h ι, w) := rz_s1 fun _ => rfl
theorem g122_17 (c : rz_fR h a 11 2) : rg Z d rx_m122 17 L (.ref a :: S) (rz_mk h ι, w) = rg Z d rx_m122 20 L (rz_rv h a 2 :: S) (rz_mk h ι, w) := rz_gR rfl (by decide) c
theorem g122_20 (c : rz_oc h a 6) : rg Z d rx_m122 20 L (.ref a :: []) (rz_mk h ι, w) = rz_k true (rz_f Z d 54 [.ref a] (rz_mk h ι, w)) (fun v σ' => rg Z d rx_m122 23 L (v.toList ++ []) σ') := rz_cv (pc := 20) (n := 0) (mi := 54) (S := .ref a :: []) (rest := []) rfl rfl (Nat.le_of_ble_eq_true rfl) (Nat.le_of_ble_eq_true rfl) c
theorem g122_23 : rg Z d rx_m122 23 L (.int x :: S) (rz_mk h ι, w) = if x = 0 then rg Z d rx_m122 26 L S (rz_mk h ι, w) else rg Z d rx_m122 34 L S (rz_mk h ι, w) := rz_if1 (pc := 23) (t := 34) (off := 11) (cc := .ne) (by decide) rfl
theorem g122_26 : rg Z d rx_m122 26 [some (.ref a), l1] S (rz_mk h ι, w) = rg Z d rx_m122 27 [some (.ref a), l1] (.ref a :: S) (rz_mk h ι, w) := rz_s1 fun _ => rfl
theorem g122_27 (c : rz_fR h a 11 0) : rg Z d rx_m122 27 L (.ref a :: S) (rz_mk h ι, w) = rg Z d rx_m122 30 L (rz_rv h a 0 :: S) (rz_mk h ι, w) := rz_gR rfl (by decide) c
theorem g122_30 (c : rz_oc h a 9) : rg Z d rx_m122 30 L (.ref a :: []) (rz_mk h ι, w) = rz_k true (rz_f Z d 90 [.ref a] (rz_mk h ι, w)) (fun v σ' => rg Z d rx_m122 33 L (v.toList ++ []) σ') := rz_cv (pc := 30) (n := 0) (mi := 90) (S := .ref a :: []) (rest := []) rfl rfl (Nat.le_of_ble_eq_true rfl) (Nat.le_of_ble_eq_true rfl) c
theorem g122_33 : rg Z d rx_m122 33 L [.int x] (rz_mk h ι, w) = some (.inl (some (.int x)), (rz_mk h ι, w)) := rz_reti rfl rfl rfl
theorem g122_34 : rg Z d rx_m122 34 [some (.ref a), l1] S (rz_mk h ι, w) = rg Z d rx_m122 35 [some (.ref a), l1] (.ref a :: S) (rz_mk h ι, w) := rz_s1 fun _ => rfl
theorem g122_35 : rg Z d rx_m122 35 [some (.ref a), l1] S (rz_mk h ι, w) = rg Z d rx_m122 36 [some (.ref a), l1] (.ref a :: S) (rz_mk h ι, w) := rz_s1 fun _ => rfl
theorem g122_36 (c : rz_fR h a 11 2) : rg Z d rx_m122 36 L (.ref a :: S) (rz_mk h ι, w) = rg Z d rx_m122 39 L (rz_rv h a 2 :: S) (rz_mk h ι, w) := rz_gR rfl (by decide) c
theorem g122_39 : rg Z d rx_m122 39 [some (.ref a), l1] S (rz_mk h ι, w) = rg Z d rx_m122 40 [some (.ref a), l1] (.ref a :: S) (rz_mk h ι, w) := rz_s1 fun _ => rfl
theorem g122_40 (c : rz_fR h a 11 10) : rg Z d rx_m122 40 L (.ref a :: S) (rz_mk h ι, w) = rg Z d rx_m122 43 L (rz_rv h a 10 :: S) (rz_mk h ι, w) := rz_gR rfl (by decide) c
theorem g122_43 (c : rz_oc h a 6) : rg Z d rx_m122 43 L (v1 :: .ref a :: [.ref t0]) (rz_mk h ι, w) = rz_k true (rz_f Z d 55 [.ref a, v1] (rz_mk h ι, w)) (fun v σ' => rg Z d rx_m122 46 L (v.toList ++ [.ref t0]) σ') := rz_cv (pc := 43) (n := 1) (mi := 55) (S := v1 :: .ref a :: [.ref t0]) (rest := [.ref t0]) rfl rfl (Nat.le_of_ble_eq_true rfl) (Nat.le_of_ble_eq_true rfl) c
theorem g122_46 (c : rz_fR h a 11 10) (hv : rz_isr v = true) (hz : Z.2.1 ≤ a) : rg Z d rx_m122 46 L (v :: .ref a :: S) (rz_mk h ι, w) = rg Z d rx_m122 49 L S (rz_mk (rz_hs h a 10 v) ι, w) := rz_pR rfl c hv hz
theorem g122_49 : rg Z d rx_m122 49 L S (rz_mk h ι, w) = rg Z d rx_m122 50 L (.int 1 :: S) (rz_mk h ι, w) := rz_s1 fun _ => rfl
theorem g122_50 : rg Z d rx_m122 50 L [.int x] (rz_mk h ι, w) = some (.inl (some (.int x)), (rz_mk h ι, w)) := rz_reti rfl rfl rfl
theorem e122 : rz_f Z (d + 1) 122 [.ref t0, .int s1] σ = rg Z d rx_m122 0 [some (.ref t0), some (.int s1)] [] σ := rz_f_eq rfl (Nat.le_of_ble_eq_true rfl)
theorem g123_0 : rg Z d rx_m123 0 [some (.ref a), l1, l2] S (rz_mk h ι, w) = rg Z d rx_m123 1 [some (.ref a), l1, l2] (.ref a :: S) (rz_mk h ι, w) := rz_s1 fun _ => rfl
theorem g123_1 : rg Z d rx_m123 1 [l0, some (.int x), l2] S (rz_mk h ι, w) = rg Z d rx_m123 2 [l0, some (.int x), l2] (.int x :: S) (rz_mk h ι, w) := rz_s1 fun _ => rfl
theorem g123_2 : rg Z d rx_m123 2 L S (rz_mk h ι, w) = rg Z d rx_m123 5 L (.int 150 :: S) (rz_mk h ι, w) := rz_s1 fun _ => rfl
theorem g123_5 (c : rz_oc h a 11) : rg Z d rx_m123 5 L (v2 :: v1 :: .ref a :: []) (rz_mk h ι, w) = rz_k true (rz_f Z d 163 [.ref a, v1, v2] (rz_mk h ι, w)) (fun v σ' => rg Z d rx_m123 8 L (v.toList ++ []) σ') := rz_cv (pc := 5) (n := 2) (mi := 163) (S := v2 :: v1 :: .ref a :: []) (rest := []) rfl rfl (Nat.le_of_ble_eq_true rfl) (Nat.le_of_ble_eq_true rfl) c
theorem g123_8 : rg Z d rx_m123 8 [some (.ref a), l1, l2] S (rz_mk h ι, w) = rg Z d rx_m123 9 [some (.ref a), l1, l2] (.ref a :: S) (rz_mk h ι, w) := rz_s1 fun _ => rfl
theorem g123_9 (c : rz_oc h a 11) : rg Z d rx_m123 9 L (.ref a :: []) (rz_mk h ι, w) = rz_k true (rz_f Z d 165 [.ref a] (rz_mk h ι, w)) (fun v σ' => rg Z d rx_m123 12 L (v.toList ++ []) σ') := rz_cv (pc := 9) (n := 0) (mi := 165) (S := .ref a :: []) (rest := []) rfl rfl (Nat.le_of_ble_eq_true rfl) (Nat.le_of_ble_eq_true rfl) c
theorem g123_12 : rg Z d rx_m123 12 L S (rz_mk h ι, w) = rg Z d rx_m123 14 L (.int 16 :: S) (rz_mk h ι, w) := rz_s1 fun _ => rfl
theorem g123_14 : rg Z d rx_m123 14 L (.int y :: .int x :: S) (rz_mk h ι, w) = if x < y then rg Z d rx_m123 28 L S (rz_mk h ι, w) else rg Z d rx_m123 17 L S (rz_mk h ι, w) := rz_if2 (pc := 14) (t := 28) (off := 14) (cc := .lt) (by decide) rfl
theorem g123_17 : rg Z d rx_m123 17 [some (.ref a), l1, l2] S (rz_mk h ι, w) = rg Z d rx_m123 18 [some (.ref a), l1, l2] (.ref a :: S) (rz_mk h ι, w) := rz_s1 fun _ => rfl
theorem g123_18 (c : rz_fR h a 11 0) : rg Z d rx_m123 18 L (.ref a :: S) (rz_mk h ι, w) = rg Z d rx_m123 21 L (rz_rv h a 0 :: S) (rz_mk h ι, w) := rz_gR rfl (by decide) c
theorem g123_21 : rg Z d rx_m123 21 L S (rz_mk h ι, w) = rg Z d rx_m123 22 L (.int 0 :: S) (rz_mk h ι, w) := rz_s1 fun _ => rfl
theorem g123_22 (c : rz_oc h a 9) : rg Z d rx_m123 22 L (v1 :: .ref a :: []) (rz_mk h ι, w) = rz_k true (rz_f Z d 89 [.ref a, v1] (rz_mk h ι, w)) (fun v σ' => rg Z d rx_m123 25 L (v.toList ++ []) σ') := rz_cv (pc := 22) (n := 1) (mi := 89) (S := v1 :: .ref a :: []) (rest := []) rfl rfl (Nat.le_of_ble_eq_true rfl) (Nat.le_of_ble_eq_true rfl) c
theorem g123_25 : rg Z d rx_m123 25 L S (rz_mk h ι, w) = rg Z d rx_m123 27 L (.int (-20) :: S) (rz_mk h ι, w) := rz_s1 fun _ => rfl
theorem g123_27 : rg Z d rx_m123 27 L [.int x] (rz_mk h ι, w) = some (.inl (some (.int x)), (rz_mk h ι, w)) := rz_reti rfl rfl rfl
theorem g123_28 : rg Z d rx_m123 28 [some (.ref a), l1, l2] S (rz_mk h ι, w) = rg Z d rx_m123 29 [some (.ref a), l1, l2] (.ref a :: S) (rz_mk h ι, w) := rz_s1 fun _ => rfl
theorem g123_29 (c : rz_fR h a 11 0) : rg Z d rx_m123 29 L (.ref a :: S) (rz_mk h ι, w) = rg Z d rx_m123 32 L (rz_rv h a 0 :: S) (rz_mk h ι, w) := rz_gR rfl (by decide) c
theorem g123_32 : rg Z d rx_m123 32 [l0, some (.int x), l2] S (rz_mk h ι, w) = rg Z d rx_m123 33 [l0, some (.int x), l2] (.int x :: S) (rz_mk h ι, w) := rz_s1 fun _ => rfl
theorem g123_33 (c : rz_oc h a 9) : rg Z d rx_m123 33 L (v1 :: .ref a :: []) (rz_mk h ι, w) = rz_k true (rz_f Z d 89 [.ref a, v1] (rz_mk h ι, w)) (fun v σ' => rg Z d rx_m123 36 L (v.toList ++ []) σ') := rz_cv (pc := 33) (n := 1) (mi := 89) (S := v1 :: .ref a :: []) (rest := []) rfl rfl (Nat.le_of_ble_eq_true rfl) (Nat.le_of_ble_eq_true rfl) c
theorem g123_36 : rg Z d rx_m123 36 [some (.ref a), l1, l2] S (rz_mk h ι, w) = rg Z d rx_m123 37 [some (.ref a), l1, l2] (.ref a :: S) (rz_mk h ι, w) := rz_s1 fun _ => rfl
theorem g123_37 (c : rz_fR h a 11 3) : rg Z d rx_m123 37 L (.ref a :: S) (rz_mk h ι, w) = rg Z d rx_m123 40 L (rz_rv h a 3 :: S) (rz_mk h ι, w) := rz_gR rfl (by decide) c
theorem g123_40 (c : rz_oc h a 10) : rg Z d rx_m123 40 L (.ref a :: []) (rz_mk h ι, w) = rz_k true (rz_f Z d 103 [.ref a] (rz_mk h ι, w)) (fun v σ' => rg Z d rx_m123 43 L (v.toList ++ []) σ') := rz_cv (pc := 40) (n := 0) (mi := 103) (S := .ref a :: []) (rest := []) rfl rfl (Nat.le_of_ble_eq_true rfl) (Nat.le_of_ble_eq_true rfl) c
theorem g123_43 : rg Z d rx_m123 43 L (.int x :: S) (rz_mk h ι, w) = if x = 0 then rg Z d rx_m123 46 L S (rz_mk h ι, w) else rg Z d rx_m123 54 L S (rz_mk h ι, w) := rz_if1 (pc := 43) (t := 54) (off := 11) (cc := .ne) (by decide) rfl
theorem g123_46 : rg Z d rx_m123 46 [some (.ref a), l1, l2] S (rz_mk h ι, w) = rg Z d rx_m123 47 [some (.ref a), l1, l2] (.ref a :: S) (rz_mk h ι, w) := rz_s1 fun _ => rfl
theorem g123_47 (c : rz_fR h a 11 0) : rg Z d rx_m123 47 L (.ref a :: S) (rz_mk h ι, w) = rg Z d rx_m123 50 L (rz_rv h a 0 :: S) (rz_mk h ι, w) := rz_gR rfl (by decide) c
theorem g123_50 (c : rz_oc h a 9) : rg Z d rx_m123 50 L (.ref a :: []) (rz_mk h ι, w) = rz_k true (rz_f Z d 90 [.ref a] (rz_mk h ι, w)) (fun v σ' => rg Z d rx_m123 53 L (v.toList ++ []) σ') := rz_cv (pc := 50) (n := 0) (mi := 90) (S := .ref a :: []) (rest := []) rfl rfl (Nat.le_of_ble_eq_true rfl) (Nat.le_of_ble_eq_true rfl) c
theorem g123_53 : rg Z d rx_m123 53 L [.int x] (rz_mk h ι, w) = some (.inl (some (.int x)), (rz_mk h ι, w)) := rz_reti rfl rfl rfl
theorem g123_54 : rg Z d rx_m123 54 [some (.ref a), l1, l2] S (rz_mk h ι, w) = rg Z d rx_m123 55 [some (.ref a), l1, l2] (.ref a :: S) (rz_mk h ι, w) := rz_s1 fun _ => rfl
theorem g123_55 : rg Z d rx_m123 55 L S (rz_mk h ι, w) = rg Z d rx_m123 58 L (.ref w.1 :: S) (rz_mk (rx_up h w.1 (.inr (7, rx_df 7))) (rz_z ι w.1), w.1 + 1, w.2 + 3) := rz_nw rfl rfl
theorem g123_58 : rg Z d rx_m123 58 L (.ref a :: S) (rz_mk h ι, w) = rg Z d rx_m123 59 L (.ref a :: .ref a :: S) (rz_mk h ι, w) := rz_s1 fun _ => rfl
theorem g123_59 : rg Z d rx_m123 59 [some (.ref a), l1, l2] S (rz_mk h ι, w) = rg Z d rx_m123 60 [some (.ref a), l1, l2] (.ref a :: S) (rz_mk h ι, w) := rz_s1 fun _ => rfl
theorem g123_60 (c : rz_fR h a 11 11) : rg Z d rx_m123 60 L (.ref a :: S) (rz_mk h ι, w) = rg Z d rx_m123 63 L (rz_rv h a 11 :: S) (rz_mk h ι, w) := rz_gR rfl (by decide) c
theorem g123_63 : rg Z d rx_m123 63 [some (.ref a), l1, l2] S (rz_mk h ι, w) = rg Z d rx_m123 64 [some (.ref a), l1, l2] (.ref a :: S) (rz_mk h ι, w) := rz_s1 fun _ => rfl
theorem g123_64 (c : rz_fR h a 11 12) : rg Z d rx_m123 64 L (.ref a :: S) (rz_mk h ι, w) = rg Z d rx_m123 67 L (rz_rv h a 12 :: S) (rz_mk h ι, w) := rz_gR rfl (by decide) c
theorem g123_67 : rg Z d rx_m123 67 L (v2 :: v1 :: .ref a :: [.ref t0, .ref t1]) (rz_mk h ι, w) = rz_k false (rz_f Z d 64 [.ref a, v1, v2] (rz_mk h ι, w)) (fun v σ' => rg Z d rx_m123 70 L (v.toList ++ [.ref t0, .ref t1]) σ') := rz_ci (pc := 67) (n := 2) (mi := 64) (S := v2 :: v1 :: .ref a :: [.ref t0, .ref t1]) (rest := [.ref t0, .ref t1]) (by decide) rfl rfl (Nat.le_of_ble_eq_true rfl) (Nat.le_of_ble_eq_true rfl)
theorem g123_70 (c : rz_fR h a 11 12) (hv : rz_isr v = true) (hz : Z.2.1 ≤ a) : rg Z d rx_m123 70 L (v :: .ref a :: S) (rz_mk h ι, w) = rg Z d rx_m123 73 L S (rz_mk (rz_hs h a 12 v) ι, w) := rz_pR rfl c hv hz
theorem g123_73 : rg Z d rx_m123 73 L S (rz_mk h ι, w) = rg Z d rx_m123 76 L (.ref w.1 :: S) (rz_mk (rx_up h w.1 (.inr (8, rx_df 8))) (rz_z ι w.1), w.1 + 1, w.2 + 9) := rz_nw rfl rfl
theorem g123_76 : rg Z d rx_m123 76 L (.ref a :: S) (rz_mk h ι, w) = rg Z d rx_m123 77 L (.ref a :: .ref a :: S) (rz_mk h ι, w) := rz_s1 fun _ => rfl
theorem g123_77 : rg Z d rx_m123 77 L (.ref a :: [.ref t0]) (rz_mk h ι, w) = rz_k false (rz_f Z d 65 [.ref a] (rz_mk h ι, w)) (fun v σ' => rg Z d rx_m123 80 L (v.toList ++ [.ref t0]) σ') := rz_ci (pc := 77) (n := 0) (mi := 65) (S := .ref a :: [.ref t0]) (rest := [.ref t0]) (by decide) rfl rfl (Nat.le_of_ble_eq_true rfl) (Nat.le_of_ble_eq_true rfl)
theorem g123_80 : rg Z d rx_m123 80 [l0, some (.int z), l2] (.ref a :: S) (rz_mk h ι, w) = rg Z d rx_m123 81 [l0, some (.int z), some (.ref a)] S (rz_mk h ι, w) := rz_s1 fun _ => rfl
theorem g123_81 : rg Z d rx_m123 81 [l0, l1, some (.ref a)] S (rz_mk h ι, w) = rg Z d rx_m123 82 [l0, l1, some (.ref a)] (.ref a :: S) (rz_mk h ι, w) := rz_s1 fun _ => rfl
theorem g123_82 : rg Z d rx_m123 82 [some (.ref a), l1, l2] S (rz_mk h ι, w) = rg Z d rx_m123 83 [some (.ref a), l1, l2] (.ref a :: S) (rz_mk h ι, w) := rz_s1 fun _ => rfl
theorem g123_83 (c : rz_fR h a 11 11) : rg Z d rx_m123 83 L (.ref a :: S) (rz_mk h ι, w) = rg Z d rx_m123 86 L (rz_rv h a 11 :: S) (rz_mk h ι, w) := rz_gR rfl (by decide) c
theorem g123_86 (c : rz_oc h a 8) : rg Z d rx_m123 86 L (v1 :: .ref a :: []) (rz_mk h ι, w) = rz_k true (rz_f Z d 66 [.ref a, v1] (rz_mk h ι, w)) (fun v σ' => rg Z d rx_m123 89 L (v.toList ++ []) σ') := rz_cv (pc := 86) (n := 1) (mi := 66) (S := v1 :: .ref a :: []) (rest := []) rfl rfl (Nat.le_of_ble_eq_true rfl) (Nat.le_of_ble_eq_true rfl) c
theorem g123_89 : rg Z d rx_m123 89 [some (.ref a), l1, l2] S (rz_mk h ι, w) = rg Z d rx_m123 90 [some (.ref a), l1, l2] (.ref a :: S) (rz_mk h ι, w) := rz_s1 fun _ => rfl
theorem g123_90 : rg Z d rx_m123 90 [l0, l1, some (.ref a)] S (rz_mk h ι, w) = rg Z d rx_m123 91 [l0, l1, some (.ref a)] (.ref a :: S) (rz_mk h ι, w) := rz_s1 fun _ => rfl
theorem g123_91 (c : rz_fR h a 11 11) (hv : rz_isr v = true) (hz : Z.2.1 ≤ a) : rg Z d rx_m123 91 L (v :: .ref a :: S) (rz_mk h ι, w) = rg Z d rx_m123 94 L S (rz_mk (rz_hs h a 11 v) ι, w) := rz_pR rfl c hv hz
theorem g123_94 : rg Z d rx_m123 94 [some (.ref a), l1, l2] S (rz_mk h ι, w) = rg Z d rx_m123 95 [some (.ref a), l1, l2] (.ref a :: S) (rz_mk h ι, w) := rz_s1 fun _ => rfl
theorem g123_95 (c : rz_fR h a 11 3) : rg Z d rx_m123 95 L (.ref a :: S) (rz_mk h ι, w) = rg Z d rx_m123 98 L (rz_rv h a 3 :: S) (rz_mk h ι, w) := rz_gR rfl (by decide) c
theorem g123_98 : rg Z d rx_m123 98 [some (.ref a), l1, l2] S (rz_mk h ι, w) = rg Z d rx_m123 99 [some (.ref a), l1, l2] (.ref a :: S) (rz_mk h ι, w) := rz_s1 fun _ => rfl
theorem g123_99 (c : rz_fR h a 11 11) : rg Z d rx_m123 99 L (.ref a :: S) (rz_mk h ι, w) = rg Z d rx_m123 102 L (rz_rv h a 11 :: S) (rz_mk h ι, w) := rz_gR rfl (by decide) c
theorem g123_102 : rg Z d rx_m123 102 [some (.ref a), l1, l2] S (rz_mk h ι, w) = rg Z d rx_m123 103 [some (.ref a), l1, l2] (.ref a :: S) (rz_mk h ι, w) := rz_s1 fun _ => rfl
theorem g123_103 (c : rz_fR h a 11 10) : rg Z d rx_m123 103 L (.ref a :: S) (rz_mk h ι, w) = rg Z d rx_m123 106 L (rz_rv h a 10 :: S) (rz_mk h ι, w) := rz_gR rfl (by decide) c
theorem g123_106 (c : rz_oc h a 10) : rg Z d rx_m123 106 L (v2 :: v1 :: .ref a :: []) (rz_mk h ι, w) = rz_k true (rz_f Z d 114 [.ref a, v1, v2] (rz_mk h ι, w)) (fun v σ' => rg Z d rx_m123 109 L (v.toList ++ []) σ') := rz_cv (pc := 106) (n := 2) (mi := 114) (S := v2 :: v1 :: .ref a :: []) (rest := []) rfl rfl (Nat.le_of_ble_eq_true rfl) (Nat.le_of_ble_eq_true rfl) c
theorem g123_109 : rg Z d rx_m123 109 [some (.ref a), l1, l2] S (rz_mk h ι, w) = rg Z d rx_m123 110 [some (.ref a), l1, l2] (.ref a :: S) (rz_mk h ι, w) := rz_s1 fun _ => rfl
theorem g123_110 : rg Z d rx_m123 110 [some (.ref a), l1, l2] S (rz_mk h ι, w) = rg Z d rx_m123 111 [some (.ref a), l1, l2] (.ref a :: S) (rz_mk h ι, w) := rz_s1 fun _ => rfl
theorem g123_111 (c : rz_fR h a 11 3) : rg Z d rx_m123 111 L (.ref a :: S) (rz_mk h ι, w) = rg Z d rx_m123 114 L (rz_rv h a 3 :: S) (rz_mk h ι, w) := rz_gR rfl (by decide) c
theorem g123_114 (c : rz_fI h a 10 8) : rg Z d rx_m123 114 L (.ref a :: S) (rz_mk h ι, w) = rg Z d rx_m123 117 L (.int (ι a 8) :: S) (rz_mk h ι, w) := rz_gI rfl (by decide) c
theorem g123_117 (c : rz_fI h a 11 15) (hz : Z.2.1 ≤ a) : rg Z d rx_m123 117 L (.int x :: .ref a :: S) (rz_mk h ι, w) = rg Z d rx_m123 120 L S (rz_mk h (rz_up ι a 15 x), w) := rz_pI rfl c hz
theorem g123_120 : rg Z d rx_m123 120 [some (.ref a), l1, l2] S (rz_mk h ι, w) = rg Z d rx_m123 121 [some (.ref a), l1, l2] (.ref a :: S) (rz_mk h ι, w) := rz_s1 fun _ => rfl
theorem g123_121 (c : rz_fR h a 11 3) : rg Z d rx_m123 121 L (.ref a :: S) (rz_mk h ι, w) = rg Z d rx_m123 124 L (rz_rv h a 3 :: S) (rz_mk h ι, w) := rz_gR rfl (by decide) c
theorem g123_124 (c : rz_fI h a 10 7) : rg Z d rx_m123 124 L (.ref a :: S) (rz_mk h ι, w) = rg Z d rx_m123 127 L (.int (ι a 7) :: S) (rz_mk h ι, w) := rz_gI rfl (by decide) c
theorem g123_127 : rg Z d rx_m123 127 L [.int x] (rz_mk h ι, w) = some (.inl (some (.int x)), (rz_mk h ι, w)) := rz_reti rfl rfl rfl
theorem e123 : rz_f Z (d + 1) 123 [.ref t0, .int s1] σ = rg Z d rx_m123 0 [some (.ref t0), some (.int s1), none] [] σ := rz_f_eq rfl (Nat.le_of_ble_eq_true rfl)
theorem g124_0 : rg Z d rx_m124 0 [some (.ref a), l1] S (rz_mk h ι, w) = rg Z d rx_m124 1 [some (.ref a), l1] (.ref a :: S) (rz_mk h ι, w) := rz_s1 fun _ => rfl
theorem g124_1 : rg Z d rx_m124 1 [l0, some (.int x)] S (rz_mk h ι, w) = rg Z d rx_m124 2 [l0, some (.int x)] (.int x :: S) (rz_mk h ι, w) := rz_s1 fun _ => rfl
theorem g124_2 : rg Z d rx_m124 2 L S (rz_mk h ι, w) = rg Z d rx_m124 4 L (.int 60 :: S) (rz_mk h ι, w) := rz_s1 fun _ => rfl
theorem g124_4 (c : rz_oc h a 11) : rg Z d rx_m124 4 L (v2 :: v1 :: .ref a :: []) (rz_mk h ι, w) = rz_k true (rz_f Z d 163 [.ref a, v1, v2] (rz_mk h ι, w)) (fun v σ' => rg Z d rx_m124 7 L (v.toList ++ []) σ') := rz_cv (pc := 4) (n := 2) (mi := 163) (S := v2 :: v1 :: .ref a :: []) (rest := []) rfl rfl (Nat.le_of_ble_eq_true rfl) (Nat.le_of_ble_eq_true rfl) c
theorem g124_7 : rg Z d rx_m124 7 [some (.ref a), l1] S (rz_mk h ι, w) = rg Z d rx_m124 8 [some (.ref a), l1] (.ref a :: S) (rz_mk h ι, w) := rz_s1 fun _ => rfl
theorem g124_8 (c : rz_fR h a 11 0) : rg Z d rx_m124 8 L (.ref a :: S) (rz_mk h ι, w) = rg Z d rx_m124 11 L (rz_rv h a 0 :: S) (rz_mk h ι, w) := rz_gR rfl (by decide) c
theorem g124_11 : rg Z d rx_m124 11 [l0, some (.int x)] S (rz_mk h ι, w) = rg Z d rx_m124 12 [l0, some (.int x)] (.int x :: S) (rz_mk h ι, w) := rz_s1 fun _ => rfl
theorem g124_12 (c : rz_oc h a 9) : rg Z d rx_m124 12 L (v1 :: .ref a :: []) (rz_mk h ι, w) = rz_k true (rz_f Z d 89 [.ref a, v1] (rz_mk h ι, w)) (fun v σ' => rg Z d rx_m124 15 L (v.toList ++ []) σ') := rz_cv (pc := 12) (n := 1) (mi := 89) (S := v1 :: .ref a :: []) (rest := []) rfl rfl (Nat.le_of_ble_eq_true rfl) (Nat.le_of_ble_eq_true rfl) c
theorem g124_15 : rg Z d rx_m124 15 [some (.ref a), l1] S (rz_mk h ι, w) = rg Z d rx_m124 16 [some (.ref a), l1] (.ref a :: S) (rz_mk h ι, w) := rz_s1 fun _ => rfl
theorem g124_16 (c : rz_fR h a 11 4) : rg Z d rx_m124 16 L (.ref a :: S) (rz_mk h ι, w) = rg Z d rx_m124 19 L (rz_rv h a 4 :: S) (rz_mk h ι, w) := rz_gR rfl (by decide) c
theorem g124_19 : rg Z d rx_m124 19 [some (.ref a), l1] S (rz_mk h ι, w) = rg Z d rx_m124 20 [some (.ref a), l1] (.ref a :: S) (rz_mk h ι, w) := rz_s1 fun _ => rfl
theorem g124_20 (c : rz_fR h a 11 0) : rg Z d rx_m124 20 L (.ref a :: S) (rz_mk h ι, w) = rg Z d rx_m124 23 L (rz_rv h a 0 :: S) (rz_mk h ι, w) := rz_gR rfl (by decide) c
theorem g124_23 (c : rz_oc h a 0) : rg Z d rx_m124 23 L (v1 :: .ref a :: []) (rz_mk h ι, w) = rz_k true (rz_f Z d 4 [.ref a, v1] (rz_mk h ι, w)) (fun v σ' => rg Z d rx_m124 26 L (v.toList ++ []) σ') := rz_cv (pc := 23) (n := 1) (mi := 4) (S := v1 :: .ref a :: []) (rest := []) rfl rfl (Nat.le_of_ble_eq_true rfl) (Nat.le_of_ble_eq_true rfl) c
theorem g124_26 : rg Z d rx_m124 26 L (.int x :: S) (rz_mk h ι, w) = if x = 0 then rg Z d rx_m124 29 L S (rz_mk h ι, w) else rg Z d rx_m124 37 L S (rz_mk h ι, w) := rz_if1 (pc := 26) (t := 37) (off := 11) (cc := .ne) (by decide) rfl
theorem g124_29 : rg Z d rx_m124 29 [some (.ref a), l1] S (rz_mk h ι, w) = rg Z d rx_m124 30 [some (.ref a), l1] (.ref a :: S) (rz_mk h ι, w) := rz_s1 fun _ => rfl
theorem g124_30 (c : rz_fR h a 11 0) : rg Z d rx_m124 30 L (.ref a :: S) (rz_mk h ι, w) = rg Z d rx_m124 33 L (rz_rv h a 0 :: S) (rz_mk h ι, w) := rz_gR rfl (by decide) c
theorem g124_33 (c : rz_oc h a 9) : rg Z d rx_m124 33 L (.ref a :: []) (rz_mk h ι, w) = rz_k true (rz_f Z d 90 [.ref a] (rz_mk h ι, w)) (fun v σ' => rg Z d rx_m124 36 L (v.toList ++ []) σ') := rz_cv (pc := 33) (n := 0) (mi := 90) (S := .ref a :: []) (rest := []) rfl rfl (Nat.le_of_ble_eq_true rfl) (Nat.le_of_ble_eq_true rfl) c
theorem g124_36 : rg Z d rx_m124 36 L [.int x] (rz_mk h ι, w) = some (.inl (some (.int x)), (rz_mk h ι, w)) := rz_reti rfl rfl rfl
theorem g124_37 : rg Z d rx_m124 37 [some (.ref a), l1] S (rz_mk h ι, w) = rg Z d rx_m124 38 [some (.ref a), l1] (.ref a :: S) (rz_mk h ι, w) := rz_s1 fun _ => rfl
theorem g124_38 (c : rz_fR h a 11 4) : rg Z d rx_m124 38 L (.ref a :: S) (rz_mk h ι, w) = rg Z d rx_m124 41 L (rz_rv h a 4 :: S) (rz_mk h ι, w) := rz_gR rfl (by decide) c
theorem g124_41 (c : rz_fI h a 0 2) : rg Z d rx_m124 41 L (.ref a :: S) (rz_mk h ι, w) = rg Z d rx_m124 44 L (.int (ι a 2) :: S) (rz_mk h ι, w) := rz_gI rfl (by decide) c
theorem g124_44 : rg Z d rx_m124 44 L [.int x] (rz_mk h ι, w) = some (.inl (some (.int x)), (rz_mk h ι, w)) := rz_reti rfl rfl rfl
theorem e124 : rz_f Z (d + 1) 124 [.ref t0, .int s1] σ = rg Z d rx_m124 0 [some (.ref t0), some (.int s1)] [] σ := rz_f_eq rfl (Nat.le_of_ble_eq_true rfl)
theorem g125_0 : rg Z d rx_m125 0 [some (.ref a)] S (rz_mk h ι, w) = rg Z d rx_m125 1 [some (.ref a)] (.ref a :: S) (rz_mk h ι, w) := rz_s1 fun _ => rfl
theorem g125_1 (c : rz_fR h a 11 0) : rg Z d rx_m125 1 L (.ref a :: S) (rz_mk h ι, w) = rg Z d rx_m125 4 L (rz_rv h a 0 :: S) (rz_mk h ι, w) := rz_gR rfl (by decide) c
theorem g125_4 (c : rz_fI h a 9 6) : rg Z d rx_m125 4 L (.ref a :: S) (rz_mk h ι, w) = rg Z d rx_m125 7 L (.int (ι a 6) :: S) (rz_mk h ι, w) := rz_gI rfl (by decide) c
theorem g125_7 : rg Z d rx_m125 7 L [.int x] (rz_mk h ι, w) = some (.inl (some (.int x)), (rz_mk h ι, w)) := rz_reti rfl rfl rfl
theorem e125 : rz_f Z (d + 1) 125 [.ref t0] σ = rg Z d rx_m125 0 [some (.ref t0)] [] σ := rz_f_eq rfl (Nat.le_of_ble_eq_true rfl)
theorem g126_0 : rg Z d rx_m126 0 [some (.ref a)] S (rz_mk h ι, w) = rg Z d rx_m126 1 [some (.ref a)] (.ref a :: S) (rz_mk h ι, w) := rz_s1 fun _ => rfl
theorem g126_1 (c : rz_fR h a 11 12) : rg Z d rx_m126 1 L (.ref a :: S) (rz_mk h ι, w) = rg Z d rx_m126 4 L (rz_rv h a 12 :: S) (rz_mk h ι, w) := rz_gR rfl (by decide) c
theorem g126_4n : rg Z d rx_m126 4 L (.null :: S) (rz_mk h ι, w) = rg Z d rx_m126 7 L S (rz_mk h ι, w) := rz_s1 fun _ => rfl
theorem g126_4 : rg Z d rx_m126 4 L (.ref a :: S) (rz_mk h ι, w) = rg Z d rx_m126 9 L S (rz_mk h ι, w) := rz_s1 fun _ => rfl
theorem g126_7 : rg Z d rx_m126 7 L S (rz_mk h ι, w) = rg Z d rx_m126 8 L (.int (-1) :: S) (rz_mk h ι, w) := rz_s1 fun _ => rfl
theorem g126_8 : rg Z d rx_m126 8 L [.int x] (rz_mk h ι, w) = some (.inl (some (.int x)), (rz_mk h ι, w)) := rz_reti rfl rfl rfl
theorem g126_9 : rg Z d rx_m126 9 [some (.ref a)] S (rz_mk h ι, w) = rg Z d rx_m126 10 [some (.ref a)] (.ref a :: S) (rz_mk h ι, w) := rz_s1 fun _ => rfl
theorem g126_10 : rg Z d rx_m126 10 [some (.ref a)] S (rz_mk h ι, w) = rg Z d rx_m126 11 [some (.ref a)] (.ref a :: S) (rz_mk h ι, w) := rz_s1 fun _ => rfl
theorem g126_11 (c : rz_fR h a 11 12) : rg Z d rx_m126 11 L (.ref a :: S) (rz_mk h ι, w) = rg Z d rx_m126 14 L (rz_rv h a 12 :: S) (rz_mk h ι, w) := rz_gR rfl (by decide) c
theorem g126_14 (c : rz_fR h a 7 0) : rg Z d rx_m126 14 L (.ref a :: S) (rz_mk h ι, w) = rg Z d rx_m126 17 L (rz_rv h a 0 :: S) (rz_mk h ι, w) := rz_gR rfl (by decide) c
theorem g126_17 (c : rz_fR h a 11 11) (hv : rz_isr v = true) (hz : Z.2.1 ≤ a) : rg Z d rx_m126 17 L (v :: .ref a :: S) (rz_mk h ι, w) = rg Z d rx_m126 20 L S (rz_mk (rz_hs h a 11 v) ι, w) := rz_pR rfl c hv hz
theorem g126_20 : rg Z d rx_m126 20 [some (.ref a)] S (rz_mk h ι, w) = rg Z d rx_m126 21 [some (.ref a)] (.ref a :: S) (rz_mk h ι, w) := rz_s1 fun _ => rfl
theorem g126_21 : rg Z d rx_m126 21 [some (.ref a)] S (rz_mk h ι, w) = rg Z d rx_m126 22 [some (.ref a)] (.ref a :: S) (rz_mk h ι, w) := rz_s1 fun _ => rfl
theorem g126_22 (c : rz_fR h a 11 12) : rg Z d rx_m126 22 L (.ref a :: S) (rz_mk h ι, w) = rg Z d rx_m126 25 L (rz_rv h a 12 :: S) (rz_mk h ι, w) := rz_gR rfl (by decide) c
theorem g126_25 (c : rz_fR h a 7 1) : rg Z d rx_m126 25 L (.ref a :: S) (rz_mk h ι, w) = rg Z d rx_m126 28 L (rz_rv h a 1 :: S) (rz_mk h ι, w) := rz_gR rfl (by decide) c
theorem g126_28 (c : rz_fR h a 11 12) (hv : rz_isr v = true) (hz : Z.2.1 ≤ a) : rg Z d rx_m126 28 L (v :: .ref a :: S) (rz_mk h ι, w) = rg Z d rx_m126 31 L S (rz_mk (rz_hs h a 12 v) ι, w) := rz_pR rfl c hv hz
theorem g126_31 : rg Z d rx_m126 31 [some (.ref a)] S (rz_mk h ι, w) = rg Z d rx_m126 32 [some (.ref a)] (.ref a :: S) (rz_mk h ι, w) := rz_s1 fun _ => rfl
theorem g126_32 : rg Z d rx_m126 32 L S (rz_mk h ι, w) = rg Z d rx_m126 33 L (.int 0 :: S) (rz_mk h ι, w) := rz_s1 fun _ => rfl
theorem g126_33 (c : rz_fI h a 11 15) (hz : Z.2.1 ≤ a) : rg Z d rx_m126 33 L (.int x :: .ref a :: S) (rz_mk h ι, w) = rg Z d rx_m126 36 L S (rz_mk h (rz_up ι a 15 x), w) := rz_pI rfl c hz
theorem g126_36 : rg Z d rx_m126 36 [some (.ref a)] S (rz_mk h ι, w) = rg Z d rx_m126 37 [some (.ref a)] (.ref a :: S) (rz_mk h ι, w) := rz_s1 fun _ => rfl
theorem g126_37 (c : rz_oc h a 11) : rg Z d rx_m126 37 L (.ref a :: []) (rz_mk h ι, w) = rz_k true (rz_f Z d 165 [.ref a] (rz_mk h ι, w)) (fun v σ' => rg Z d rx_m126 40 L (v.toList ++ []) σ') := rz_cv (pc := 37) (n := 0) (mi := 165) (S := .ref a :: []) (rest := []) rfl rfl (Nat.le_of_ble_eq_true rfl) (Nat.le_of_ble_eq_true rfl) c
theorem g126_40 : rg Z d rx_m126 40 L [.int x] (rz_mk h ι, w) = some (.inl (some (.int x)), (rz_mk h ι, w)) := rz_reti rfl rfl rfl
theorem e126 : rz_f Z (d + 1) 126 [.ref t0] σ = rg Z d rx_m126 0 [some (.ref t0)] [] σ := rz_f_eq rfl (Nat.le_of_ble_eq_true rfl)
theorem g127_0 : rg Z d rx_m127 0 [some (.ref a), l1] S (rz_mk h ι, w) = rg Z d rx_m127 1 [some (.ref a), l1] (.ref a :: S) (rz_mk h ι, w) := rz_s1 fun _ => rfl
theorem g127_1 : rg Z d rx_m127 1 [l0, some (.int x)] S (rz_mk h ι, w) = rg Z d rx_m127 2 [l0, some (.int x)] (.int x :: S) (rz_mk h ι, w) := rz_s1 fun _ => rfl
theorem g127_2 : rg Z d rx_m127 2 L S (rz_mk h ι, w) = rg Z d rx_m127 3 L (.int 0 :: S) (rz_mk h ι, w) := rz_s1 fun _ => rfl
theorem g127_3 : rg Z d rx_m127 3 L S (rz_mk h ι, w) = rg Z d rx_m127 5 L (.int 10 :: S) (rz_mk h ι, w) := rz_s1 fun _ => rfl
theorem g127_5 : rg Z d rx_m127 5 L (v3 :: v2 :: v1 :: [.ref t0]) (rz_mk h ι, w) = rz_k true (rz_f Z d 161 [v1, v2, v3] (rz_mk h ι, w)) (fun v σ' => rg Z d rx_m127 8 L (v.toList ++ [.ref t0]) σ') := rz_cs (pc := 5) (n := 3) (mi := 161) (S := v3 :: v2 :: v1 :: [.ref t0]) (rest := [.ref t0]) rfl rfl (Nat.le_of_ble_eq_true rfl) (Nat.le_of_ble_eq_true rfl)
theorem g127_8 (c : rz_oc h a 11) : rg Z d rx_m127 8 L (v1 :: .ref a :: []) (rz_mk h ι, w) = rz_k true (rz_f Z d 162 [.ref a, v1] (rz_mk h ι, w)) (fun v σ' => rg Z d rx_m127 11 L (v.toList ++ []) σ') := rz_cv (pc := 8) (n := 1) (mi := 162) (S := v1 :: .ref a :: []) (rest := []) rfl rfl (Nat.le_of_ble_eq_true rfl) (Nat.le_of_ble_eq_true rfl) c
theorem g127_11 : rg Z d rx_m127 11 [l0, some (.int x)] S (rz_mk h ι, w) = rg Z d rx_m127 12 [l0, some (.int x)] (.int x :: S) (rz_mk h ι, w) := rz_s1 fun _ => rfl
theorem g127_12 : rg Z d rx_m127 12 L (.int x :: S) (rz_mk h ι, w) = if x = 0 then rg Z d rx_m127 68 L S (rz_mk h ι, w) else if x = 1 then rg Z d rx_m127 76 L S (rz_mk h ι, w) else if x = 2 then rg Z d rx_m127 84 L S (rz_mk h ι, w) else if x = 3 then rg Z d rx_m127 92 L S (rz_mk h ι, w) else if x = 4 then rg Z d rx_m127 100 L S (rz_mk h ι, w) else if x = 5 then rg Z d rx_m127 119 L S (rz_mk h ι, w) else if x = 6 then rg Z d rx_m127 127 L S (rz_mk h ι, w) else if x = 7 then rg Z d rx_m127 135 L S (rz_mk h ι, w) else if x = 8 then rg Z d rx_m127 143 L S (rz_mk h ι, w) else if x = 9 then rg Z d rx_m127 148 L S (rz_mk h ι, w) else rg Z d rx_m127 156 L S (rz_mk h ι, w) := by
  by_cases c0 : x = 0
  · rw [if_pos c0, c0]; exact rz_s1 fun _ => rfl
  rw [if_neg c0]
  by_cases c1 : x = 1
  · rw [if_pos c1, c1]; exact rz_s1 fun _ => rfl
  rw [if_neg c1]
  by_cases c2 : x = 2
  · rw [if_pos c2, c2]; exact rz_s1 fun _ => rfl
  rw [if_neg c2]
  by_cases c3 : x = 3
  · rw [if_pos c3, c3]; exact rz_s1 fun _ => rfl
  rw [if_neg c3]
  by_cases c4 : x = 4
  · rw [if_pos c4, c4]; exact rz_s1 fun _ => rfl
  rw [if_neg c4]
  by_cases c5 : x = 5
  · rw [if_pos c5, c5]; exact rz_s1 fun _ => rfl
  rw [if_neg c5]
  by_cases c6 : x = 6
  · rw [if_pos c6, c6]; exact rz_s1 fun _ => rfl
  rw [if_neg c6]
  by_cases c7 : x = 7
  · rw [if_pos c7, c7]; exact rz_s1 fun _ => rfl
  rw [if_neg c7]
  by_cases c8 : x = 8
  · rw [if_pos c8, c8]; exact rz_s1 fun _ => rfl
  rw [if_neg c8]
  by_cases c9 : x = 9
  · rw [if_pos c9, c9]; exact rz_s1 fun _ => rfl
  rw [if_neg c9]
  refine rz_s1 fun c => ?_
  unfold rx_at1
  show ((if x.toInt < 0 ∨ 9 < x.toInt then rx_jmp _ _ _ _ else _) : rx_P).map _ = _
  rw [if_pos]
  · rfl
  · apply Decidable.byContradiction
    intro hc
    have hn : x.toInt = 0 ∨ x.toInt = 1 ∨ x.toInt = 2 ∨ x.toInt = 3 ∨ x.toInt = 4 ∨ x.toInt = 5 ∨ x.toInt = 6 ∨ x.toInt = 7 ∨ x.toInt = 8 ∨ x.toInt = 9 := by omega
    rcases hn with hn | hn | hn | hn | hn | hn | hn | hn | hn | hn
    · exact c0 (Int32.toInt_inj.mp (hn.trans (by decide)))
    · exact c1 (Int32.toInt_inj.mp (hn.trans (by decide)))
    · exact c2 (Int32.toInt_inj.mp (hn.trans (by decide)))
    · exact c3 (Int32.toInt_inj.mp (hn.trans (by decide)))
    · exact c4 (Int32.toInt_inj.mp (hn.trans (by decide)))
    · exact c5 (Int32.toInt_inj.mp (hn.trans (by decide)))
    · exact c6 (Int32.toInt_inj.mp (hn.trans (by decide)))
    · exact c7 (Int32.toInt_inj.mp (hn.trans (by decide)))
    · exact c8 (Int32.toInt_inj.mp (hn.trans (by decide)))
    · exact c9 (Int32.toInt_inj.mp (hn.trans (by decide)))
theorem g127_68 : rg Z d rx_m127 68 [some (.ref a), l1] S (rz_mk h ι, w) = rg Z d rx_m127 69 [some (.ref a), l1] (.ref a :: S) (rz_mk h ι, w) := rz_s1 fun _ => rfl
theorem g127_69 (c : rz_fR h a 11 11) : rg Z d rx_m127 69 L (.ref a :: S) (rz_mk h ι, w) = rg Z d rx_m127 72 L (rz_rv h a 11 :: S) (rz_mk h ι, w) := rz_gR rfl (by decide) c
theorem g127_72 (c : rz_fI h a 8 3) : rg Z d rx_m127 72 L (.ref a :: S) (rz_mk h ι, w) = rg Z d rx_m127 75 L (.int (ι a 3) :: S) (rz_mk h ι, w) := rz_gI rfl (by decide) c
theorem g127_75 : rg Z d rx_m127 75 L [.int x] (rz_mk h ι, w) = some (.inl (some (.int x)), (rz_mk h ι, w)) := rz_reti rfl rfl rfl
theorem g127_76 : rg Z d rx_m127 76 [some (.ref a), l1] S (rz_mk h ι, w) = rg Z d rx_m127 77 [some (.ref a), l1] (.ref a :: S) (rz_mk h ι, w) := rz_s1 fun _ => rfl
theorem g127_77 (c : rz_fR h a 11 11) : rg Z d rx_m127 77 L (.ref a :: S) (rz_mk h ι, w) = rg Z d rx_m127 80 L (rz_rv h a 11 :: S) (rz_mk h ι, w) := rz_gR rfl (by decide) c
theorem g127_80 (c : rz_fI h a 8 4) : rg Z d rx_m127 80 L (.ref a :: S) (rz_mk h ι, w) = rg Z d rx_m127 83 L (.int (ι a 4) :: S) (rz_mk h ι, w) := rz_gI rfl (by decide) c
theorem g127_83 : rg Z d rx_m127 83 L [.int x] (rz_mk h ι, w) = some (.inl (some (.int x)), (rz_mk h ι, w)) := rz_reti rfl rfl rfl
theorem g127_84 : rg Z d rx_m127 84 [some (.ref a), l1] S (rz_mk h ι, w) = rg Z d rx_m127 85 [some (.ref a), l1] (.ref a :: S) (rz_mk h ι, w) := rz_s1 fun _ => rfl
theorem g127_85 (c : rz_fR h a 11 11) : rg Z d rx_m127 85 L (.ref a :: S) (rz_mk h ι, w) = rg Z d rx_m127 88 L (rz_rv h a 11 :: S) (rz_mk h ι, w) := rz_gR rfl (by decide) c
theorem g127_88 (c : rz_fI h a 8 5) : rg Z d rx_m127 88 L (.ref a :: S) (rz_mk h ι, w) = rg Z d rx_m127 91 L (.int (ι a 5) :: S) (rz_mk h ι, w) := rz_gI rfl (by decide) c
theorem g127_91 : rg Z d rx_m127 91 L [.int x] (rz_mk h ι, w) = some (.inl (some (.int x)), (rz_mk h ι, w)) := rz_reti rfl rfl rfl
theorem g127_92 : rg Z d rx_m127 92 [some (.ref a), l1] S (rz_mk h ι, w) = rg Z d rx_m127 93 [some (.ref a), l1] (.ref a :: S) (rz_mk h ι, w) := rz_s1 fun _ => rfl
theorem g127_93 (c : rz_fR h a 11 11) : rg Z d rx_m127 93 L (.ref a :: S) (rz_mk h ι, w) = rg Z d rx_m127 96 L (rz_rv h a 11 :: S) (rz_mk h ι, w) := rz_gR rfl (by decide) c
theorem g127_96 (c : rz_fI h a 8 6) : rg Z d rx_m127 96 L (.ref a :: S) (rz_mk h ι, w) = rg Z d rx_m127 99 L (.int (ι a 6) :: S) (rz_mk h ι, w) := rz_gI rfl (by decide) c
theorem g127_99 : rg Z d rx_m127 99 L [.int x] (rz_mk h ι, w) = some (.inl (some (.int x)), (rz_mk h ι, w)) := rz_reti rfl rfl rfl
theorem g127_100 : rg Z d rx_m127 100 [some (.ref a), l1] S (rz_mk h ι, w) = rg Z d rx_m127 101 [some (.ref a), l1] (.ref a :: S) (rz_mk h ι, w) := rz_s1 fun _ => rfl
theorem g127_101 (c : rz_fR h a 11 10) : rg Z d rx_m127 101 L (.ref a :: S) (rz_mk h ι, w) = rg Z d rx_m127 104 L (rz_rv h a 10 :: S) (rz_mk h ι, w) := rz_gR rfl (by decide) c
theorem g127_104 : rg Z d rx_m127 104 [some (.ref a), l1] S (rz_mk h ι, w) = rg Z d rx_m127 105 [some (.ref a), l1] (.ref a :: S) (rz_mk h ι, w) := rz_s1 fun _ => rfl
theorem g127_105 (c : rz_fR h a 11 11) : rg Z d rx_m127 105 L (.ref a :: S) (rz_mk h ι, w) = rg Z d rx_m127 108 L (rz_rv h a 11 :: S) (rz_mk h ι, w) := rz_gR rfl (by decide) c
theorem g127_108 : rg Z d rx_m127 108 [some (.ref a), l1] S (rz_mk h ι, w) = rg Z d rx_m127 109 [some (.ref a), l1] (.ref a :: S) (rz_mk h ι, w) := rz_s1 fun _ => rfl
theorem g127_109 (c : rz_fR h a 11 11) : rg Z d rx_m127 109 L (.ref a :: S) (rz_mk h ι, w) = rg Z d rx_m127 112 L (rz_rv h a 11 :: S) (rz_mk h ι, w) := rz_gR rfl (by decide) c
theorem g127_112 (c : rz_fI h a 8 5) : rg Z d rx_m127 112 L (.ref a :: S) (rz_mk h ι, w) = rg Z d rx_m127 115 L (.int (ι a 5) :: S) (rz_mk h ι, w) := rz_gI rfl (by decide) c
theorem g127_115 (c : rz_oc h a 5) : rg Z d rx_m127 115 L (v2 :: v1 :: .ref a :: []) (rz_mk h ι, w) = rz_k true (rz_f Z d 51 [.ref a, v1, v2] (rz_mk h ι, w)) (fun v σ' => rg Z d rx_m127 118 L (v.toList ++ []) σ') := rz_cv (pc := 115) (n := 2) (mi := 51) (S := v2 :: v1 :: .ref a :: []) (rest := []) rfl rfl (Nat.le_of_ble_eq_true rfl) (Nat.le_of_ble_eq_true rfl) c
theorem g127_118 : rg Z d rx_m127 118 L [.int x] (rz_mk h ι, w) = some (.inl (some (.int x)), (rz_mk h ι, w)) := rz_reti rfl rfl rfl
theorem g127_119 : rg Z d rx_m127 119 [some (.ref a), l1] S (rz_mk h ι, w) = rg Z d rx_m127 120 [some (.ref a), l1] (.ref a :: S) (rz_mk h ι, w) := rz_s1 fun _ => rfl
theorem g127_120 (c : rz_fR h a 11 11) : rg Z d rx_m127 120 L (.ref a :: S) (rz_mk h ι, w) = rg Z d rx_m127 123 L (rz_rv h a 11 :: S) (rz_mk h ι, w) := rz_gR rfl (by decide) c
theorem g127_123 (c : rz_fI h a 8 7) : rg Z d rx_m127 123 L (.ref a :: S) (rz_mk h ι, w) = rg Z d rx_m127 126 L (.int (ι a 7) :: S) (rz_mk h ι, w) := rz_gI rfl (by decide) c
theorem g127_126 : rg Z d rx_m127 126 L [.int x] (rz_mk h ι, w) = some (.inl (some (.int x)), (rz_mk h ι, w)) := rz_reti rfl rfl rfl
theorem g127_127 : rg Z d rx_m127 127 [some (.ref a), l1] S (rz_mk h ι, w) = rg Z d rx_m127 128 [some (.ref a), l1] (.ref a :: S) (rz_mk h ι, w) := rz_s1 fun _ => rfl
theorem g127_128 (c : rz_fR h a 11 11) : rg Z d rx_m127 128 L (.ref a :: S) (rz_mk h ι, w) = rg Z d rx_m127 131 L (rz_rv h a 11 :: S) (rz_mk h ι, w) := rz_gR rfl (by decide) c
theorem g127_131 (c : rz_oc h a 8) : rg Z d rx_m127 131 L (.ref a :: []) (rz_mk h ι, w) = rz_k true (rz_f Z d 77 [.ref a] (rz_mk h ι, w)) (fun v σ' => rg Z d rx_m127 134 L (v.toList ++ []) σ') := rz_cv (pc := 131) (n := 0) (mi := 77) (S := .ref a :: []) (rest := []) rfl rfl (Nat.le_of_ble_eq_true rfl) (Nat.le_of_ble_eq_true rfl) c
theorem g127_134 : rg Z d rx_m127 134 L [.int x] (rz_mk h ι, w) = some (.inl (some (.int x)), (rz_mk h ι, w)) := rz_reti rfl rfl rfl
theorem g127_135 : rg Z d rx_m127 135 [some (.ref a), l1] S (rz_mk h ι, w) = rg Z d rx_m127 136 [some (.ref a), l1] (.ref a :: S) (rz_mk h ι, w) := rz_s1 fun _ => rfl
theorem g127_136 (c : rz_fR h a 11 11) : rg Z d rx_m127 136 L (.ref a :: S) (rz_mk h ι, w) = rg Z d rx_m127 139 L (rz_rv h a 11 :: S) (rz_mk h ι, w) := rz_gR rfl (by decide) c
theorem g127_139 (c : rz_fI h a 8 8) : rg Z d rx_m127 139 L (.ref a :: S) (rz_mk h ι, w) = rg Z d rx_m127 142 L (.int (ι a 8) :: S) (rz_mk h ι, w) := rz_gI rfl (by decide) c
theorem g127_142 : rg Z d rx_m127 142 L [.int x] (rz_mk h ι, w) = some (.inl (some (.int x)), (rz_mk h ι, w)) := rz_reti rfl rfl rfl
theorem g127_143 : rg Z d rx_m127 143 [some (.ref a), l1] S (rz_mk h ι, w) = rg Z d rx_m127 144 [some (.ref a), l1] (.ref a :: S) (rz_mk h ι, w) := rz_s1 fun _ => rfl
theorem g127_144 (c : rz_fI h a 11 14) : rg Z d rx_m127 144 L (.ref a :: S) (rz_mk h ι, w) = rg Z d rx_m127 147 L (.int (ι a 14) :: S) (rz_mk h ι, w) := rz_gI rfl (by decide) c
theorem g127_147 : rg Z d rx_m127 147 L [.int x] (rz_mk h ι, w) = some (.inl (some (.int x)), (rz_mk h ι, w)) := rz_reti rfl rfl rfl
theorem g127_148 : rg Z d rx_m127 148 [some (.ref a), l1] S (rz_mk h ι, w) = rg Z d rx_m127 149 [some (.ref a), l1] (.ref a :: S) (rz_mk h ι, w) := rz_s1 fun _ => rfl
theorem g127_149 (c : rz_fR h a 11 4) : rg Z d rx_m127 149 L (.ref a :: S) (rz_mk h ι, w) = rg Z d rx_m127 152 L (rz_rv h a 4 :: S) (rz_mk h ι, w) := rz_gR rfl (by decide) c
theorem g127_152 (c : rz_fI h a 0 2) : rg Z d rx_m127 152 L (.ref a :: S) (rz_mk h ι, w) = rg Z d rx_m127 155 L (.int (ι a 2) :: S) (rz_mk h ι, w) := rz_gI rfl (by decide) c
theorem g127_155 : rg Z d rx_m127 155 L [.int x] (rz_mk h ι, w) = some (.inl (some (.int x)), (rz_mk h ι, w)) := rz_reti rfl rfl rfl
theorem g127_156 : rg Z d rx_m127 156 [some (.ref a), l1] S (rz_mk h ι, w) = rg Z d rx_m127 157 [some (.ref a), l1] (.ref a :: S) (rz_mk h ι, w) := rz_s1 fun _ => rfl
theorem g127_157 (c : rz_fI h a 11 15) : rg Z d rx_m127 157 L (.ref a :: S) (rz_mk h ι, w) = rg Z d rx_m127 160 L (.int (ι a 15) :: S) (rz_mk h ι, w) := rz_gI rfl (by decide) c
theorem g127_160 : rg Z d rx_m127 160 L [.int x] (rz_mk h ι, w) = some (.inl (some (.int x)), (rz_mk h ι, w)) := rz_reti rfl rfl rfl
theorem e127 : rz_f Z (d + 1) 127 [.ref t0, .int s1] σ = rg Z d rx_m127 0 [some (.ref t0), some (.int s1)] [] σ := rz_f_eq rfl (Nat.le_of_ble_eq_true rfl)
theorem g128_0 : rg Z d rx_m128 0 [some (.ref a), l1, l2] S (rz_mk h ι, w) = rg Z d rx_m128 1 [some (.ref a), l1, l2] (.ref a :: S) (rz_mk h ι, w) := rz_s1 fun _ => rfl
theorem g128_1 : rg Z d rx_m128 1 [l0, some (.int x), l2] S (rz_mk h ι, w) = rg Z d rx_m128 2 [l0, some (.int x), l2] (.int x :: S) (rz_mk h ι, w) := rz_s1 fun _ => rfl
theorem g128_2 (c : rz_oc h a 11) : rg Z d rx_m128 2 L (v1 :: .ref a :: []) (rz_mk h ι, w) = rz_k true (rz_f Z d 164 [.ref a, v1] (rz_mk h ι, w)) (fun v σ' => rg Z d rx_m128 5 L (v.toList ++ []) σ') := rz_cv (pc := 2) (n := 1) (mi := 164) (S := v1 :: .ref a :: []) (rest := []) rfl rfl (Nat.le_of_ble_eq_true rfl) (Nat.le_of_ble_eq_true rfl) c
theorem g128_5 : rg Z d rx_m128 5 [some (.ref a), l1, l2] S (rz_mk h ι, w) = rg Z d rx_m128 6 [some (.ref a), l1, l2] (.ref a :: S) (rz_mk h ι, w) := rz_s1 fun _ => rfl
theorem g128_6 : rg Z d rx_m128 6 [l0, l1, some (.int x)] S (rz_mk h ι, w) = rg Z d rx_m128 7 [l0, l1, some (.int x)] (.int x :: S) (rz_mk h ι, w) := rz_s1 fun _ => rfl
theorem g128_7 : rg Z d rx_m128 7 L S (rz_mk h ι, w) = rg Z d rx_m128 8 L (.int 0 :: S) (rz_mk h ι, w) := rz_s1 fun _ => rfl
theorem g128_8 : rg Z d rx_m128 8 L S (rz_mk h ι, w) = rg Z d rx_m128 10 L (.int 9 :: S) (rz_mk h ι, w) := rz_s1 fun _ => rfl
theorem g128_10 : rg Z d rx_m128 10 L (v3 :: v2 :: v1 :: [.ref t0]) (rz_mk h ι, w) = rz_k true (rz_f Z d 161 [v1, v2, v3] (rz_mk h ι, w)) (fun v σ' => rg Z d rx_m128 13 L (v.toList ++ [.ref t0]) σ') := rz_cs (pc := 10) (n := 3) (mi := 161) (S := v3 :: v2 :: v1 :: [.ref t0]) (rest := [.ref t0]) rfl rfl (Nat.le_of_ble_eq_true rfl) (Nat.le_of_ble_eq_true rfl)
theorem g128_13 (c : rz_oc h a 11) : rg Z d rx_m128 13 L (v1 :: .ref a :: []) (rz_mk h ι, w) = rz_k true (rz_f Z d 162 [.ref a, v1] (rz_mk h ι, w)) (fun v σ' => rg Z d rx_m128 16 L (v.toList ++ []) σ') := rz_cv (pc := 13) (n := 1) (mi := 162) (S := v1 :: .ref a :: []) (rest := []) rfl rfl (Nat.le_of_ble_eq_true rfl) (Nat.le_of_ble_eq_true rfl) c
theorem g128_16 : rg Z d rx_m128 16 [l0, l1, some (.int x)] S (rz_mk h ι, w) = rg Z d rx_m128 17 [l0, l1, some (.int x)] (.int x :: S) (rz_mk h ι, w) := rz_s1 fun _ => rfl
theorem g128_17 : rg Z d rx_m128 17 L S (rz_mk h ι, w) = rg Z d rx_m128 18 L (.int 3 :: S) (rz_mk h ι, w) := rz_s1 fun _ => rfl
theorem g128_18 : rg Z d rx_m128 18 L (.int y :: .int x :: S) (rz_mk h ι, w) = if x < y then rg Z d rx_m128 21 L S (rz_mk h ι, w) else rg Z d rx_m128 31 L S (rz_mk h ι, w) := rz_if2 (pc := 18) (t := 31) (off := 13) (cc := .ge) (by decide) rfl
theorem g128_21 : rg Z d rx_m128 21 [some (.ref a), l1, l2] S (rz_mk h ι, w) = rg Z d rx_m128 22 [some (.ref a), l1, l2] (.ref a :: S) (rz_mk h ι, w) := rz_s1 fun _ => rfl
theorem g128_22 (c : rz_fR h a 11 11) : rg Z d rx_m128 22 L (.ref a :: S) (rz_mk h ι, w) = rg Z d rx_m128 25 L (rz_rv h a 11 :: S) (rz_mk h ι, w) := rz_gR rfl (by decide) c
theorem g128_25 : rg Z d rx_m128 25 [l0, some (.int x), l2] S (rz_mk h ι, w) = rg Z d rx_m128 26 [l0, some (.int x), l2] (.int x :: S) (rz_mk h ι, w) := rz_s1 fun _ => rfl
theorem g128_26 : rg Z d rx_m128 26 [l0, l1, some (.int x)] S (rz_mk h ι, w) = rg Z d rx_m128 27 [l0, l1, some (.int x)] (.int x :: S) (rz_mk h ι, w) := rz_s1 fun _ => rfl
theorem g128_27 (c : rz_oc h a 8) : rg Z d rx_m128 27 L (v2 :: v1 :: .ref a :: []) (rz_mk h ι, w) = rz_k true (rz_f Z d 70 [.ref a, v1, v2] (rz_mk h ι, w)) (fun v σ' => rg Z d rx_m128 30 L (v.toList ++ []) σ') := rz_cv (pc := 27) (n := 2) (mi := 70) (S := v2 :: v1 :: .ref a :: []) (rest := []) rfl rfl (Nat.le_of_ble_eq_true rfl) (Nat.le_of_ble_eq_true rfl) c
theorem g128_30 : rg Z d rx_m128 30 L [.int x] (rz_mk h ι, w) = some (.inl (some (.int x)), (rz_mk h ι, w)) := rz_reti rfl rfl rfl
theorem g128_31 : rg Z d rx_m128 31 [l0, l1, some (.int x)] S (rz_mk h ι, w) = rg Z d rx_m128 32 [l0, l1, some (.int x)] (.int x :: S) (rz_mk h ι, w) := rz_s1 fun _ => rfl
theorem g128_32 : rg Z d rx_m128 32 L S (rz_mk h ι, w) = rg Z d rx_m128 34 L (.int 6 :: S) (rz_mk h ι, w) := rz_s1 fun _ => rfl
theorem g128_34 : rg Z d rx_m128 34 L (.int y :: .int x :: S) (rz_mk h ι, w) = if x < y then rg Z d rx_m128 37 L S (rz_mk h ι, w) else rg Z d rx_m128 49 L S (rz_mk h ι, w) := rz_if2 (pc := 34) (t := 49) (off := 15) (cc := .ge) (by decide) rfl
theorem g128_37 : rg Z d rx_m128 37 [some (.ref a), l1, l2] S (rz_mk h ι, w) = rg Z d rx_m128 38 [some (.ref a), l1, l2] (.ref a :: S) (rz_mk h ι, w) := rz_s1 fun _ => rfl
theorem g128_38 (c : rz_fR h a 11 11) : rg Z d rx_m128 38 L (.ref a :: S) (rz_mk h ι, w) = rg Z d rx_m128 41 L (rz_rv h a 11 :: S) (rz_mk h ι, w) := rz_gR rfl (by decide) c
theorem g128_41 : rg Z d rx_m128 41 [l0, some (.int x), l2] S (rz_mk h ι, w) = rg Z d rx_m128 42 [l0, some (.int x), l2] (.int x :: S) (rz_mk h ι, w) := rz_s1 fun _ => rfl
theorem g128_42 : rg Z d rx_m128 42 [l0, l1, some (.int x)] S (rz_mk h ι, w) = rg Z d rx_m128 43 [l0, l1, some (.int x)] (.int x :: S) (rz_mk h ι, w) := rz_s1 fun _ => rfl
theorem g128_43 : rg Z d rx_m128 43 L S (rz_mk h ι, w) = rg Z d rx_m128 44 L (.int 3 :: S) (rz_mk h ι, w) := rz_s1 fun _ => rfl
theorem g128_44 : rg Z d rx_m128 44 L (.int y :: .int x :: S) (rz_mk h ι, w) = rg Z d rx_m128 45 L (.int (x - y) :: S) (rz_mk h ι, w) := rz_s1 fun _ => rfl
theorem g128_45 (c : rz_oc h a 8) : rg Z d rx_m128 45 L (v2 :: v1 :: .ref a :: []) (rz_mk h ι, w) = rz_k true (rz_f Z d 71 [.ref a, v1, v2] (rz_mk h ι, w)) (fun v σ' => rg Z d rx_m128 48 L (v.toList ++ []) σ') := rz_cv (pc := 45) (n := 2) (mi := 71) (S := v2 :: v1 :: .ref a :: []) (rest := []) rfl rfl (Nat.le_of_ble_eq_true rfl) (Nat.le_of_ble_eq_true rfl) c
theorem g128_48 : rg Z d rx_m128 48 L [.int x] (rz_mk h ι, w) = some (.inl (some (.int x)), (rz_mk h ι, w)) := rz_reti rfl rfl rfl
theorem g128_49 : rg Z d rx_m128 49 [l0, l1, some (.int x)] S (rz_mk h ι, w) = rg Z d rx_m128 50 [l0, l1, some (.int x)] (.int x :: S) (rz_mk h ι, w) := rz_s1 fun _ => rfl
theorem g128_50 : rg Z d rx_m128 50 L (.int x :: S) (rz_mk h ι, w) = if x = 6 then rg Z d rx_m128 76 L S (rz_mk h ι, w) else if x = 7 then rg Z d rx_m128 85 L S (rz_mk h ι, w) else if x = 8 then rg Z d rx_m128 102 L S (rz_mk h ι, w) else rg Z d rx_m128 111 L S (rz_mk h ι, w) := by
  by_cases c0 : x = 6
  · rw [if_pos c0, c0]; exact rz_s1 fun _ => rfl
  rw [if_neg c0]
  by_cases c1 : x = 7
  · rw [if_pos c1, c1]; exact rz_s1 fun _ => rfl
  rw [if_neg c1]
  by_cases c2 : x = 8
  · rw [if_pos c2, c2]; exact rz_s1 fun _ => rfl
  rw [if_neg c2]
  refine rz_s1 fun c => ?_
  unfold rx_at1
  show ((if x.toInt < 6 ∨ 8 < x.toInt then rx_jmp _ _ _ _ else _) : rx_P).map _ = _
  rw [if_pos]
  · rfl
  · apply Decidable.byContradiction
    intro hc
    have hn : x.toInt = 6 ∨ x.toInt = 7 ∨ x.toInt = 8 := by omega
    rcases hn with hn | hn | hn
    · exact c0 (Int32.toInt_inj.mp (hn.trans (by decide)))
    · exact c1 (Int32.toInt_inj.mp (hn.trans (by decide)))
    · exact c2 (Int32.toInt_inj.mp (hn.trans (by decide)))
theorem g128_76 : rg Z d rx_m128 76 [some (.ref a), l1, l2] S (rz_mk h ι, w) = rg Z d rx_m128 77 [some (.ref a), l1, l2] (.ref a :: S) (rz_mk h ι, w) := rz_s1 fun _ => rfl
theorem g128_77 (c : rz_fR h a 11 11) : rg Z d rx_m128 77 L (.ref a :: S) (rz_mk h ι, w) = rg Z d rx_m128 80 L (rz_rv h a 11 :: S) (rz_mk h ι, w) := rz_gR rfl (by decide) c
theorem g128_80 : rg Z d rx_m128 80 [l0, some (.int x), l2] S (rz_mk h ι, w) = rg Z d rx_m128 81 [l0, some (.int x), l2] (.int x :: S) (rz_mk h ι, w) := rz_s1 fun _ => rfl
theorem g128_81 (c : rz_oc h a 8) : rg Z d rx_m128 81 L (v1 :: .ref a :: []) (rz_mk h ι, w) = rz_k true (rz_f Z d 72 [.ref a, v1] (rz_mk h ι, w)) (fun v σ' => rg Z d rx_m128 84 L (v.toList ++ []) σ') := rz_cv (pc := 81) (n := 1) (mi := 72) (S := v1 :: .ref a :: []) (rest := []) rfl rfl (Nat.le_of_ble_eq_true rfl) (Nat.le_of_ble_eq_true rfl) c
theorem g128_84 : rg Z d rx_m128 84 L [.int x] (rz_mk h ι, w) = some (.inl (some (.int x)), (rz_mk h ι, w)) := rz_reti rfl rfl rfl
theorem g128_85 : rg Z d rx_m128 85 [some (.ref a), l1, l2] S (rz_mk h ι, w) = rg Z d rx_m128 86 [some (.ref a), l1, l2] (.ref a :: S) (rz_mk h ι, w) := rz_s1 fun _ => rfl
theorem g128_86 (c : rz_fR h a 11 11) : rg Z d rx_m128 86 L (.ref a :: S) (rz_mk h ι, w) = rg Z d rx_m128 89 L (rz_rv h a 11 :: S) (rz_mk h ι, w) := rz_gR rfl (by decide) c
theorem g128_89 : rg Z d rx_m128 89 [l0, some (.int x), l2] S (rz_mk h ι, w) = rg Z d rx_m128 90 [l0, some (.int x), l2] (.int x :: S) (rz_mk h ι, w) := rz_s1 fun _ => rfl
theorem g128_90 (c : rz_oc h a 8) : rg Z d rx_m128 90 L (v1 :: .ref a :: []) (rz_mk h ι, w) = rz_k true (rz_f Z d 68 [.ref a, v1] (rz_mk h ι, w)) (fun v σ' => rg Z d rx_m128 93 L (v.toList ++ []) σ') := rz_cv (pc := 90) (n := 1) (mi := 68) (S := v1 :: .ref a :: []) (rest := []) rfl rfl (Nat.le_of_ble_eq_true rfl) (Nat.le_of_ble_eq_true rfl) c
theorem g128_93 : rg Z d rx_m128 93 L (.int x :: S) (rz_mk h ι, w) = if x = 0 then rg Z d rx_m128 100 L S (rz_mk h ι, w) else rg Z d rx_m128 96 L S (rz_mk h ι, w) := rz_if1 (pc := 93) (t := 100) (off := 7) (cc := .eq) (by decide) rfl
theorem g128_96 : rg Z d rx_m128 96 L S (rz_mk h ι, w) = rg Z d rx_m128 97 L (.int 1 :: S) (rz_mk h ι, w) := rz_s1 fun _ => rfl
theorem g128_97 : rg Z d rx_m128 97 L S (rz_mk h ι, w) = rg Z d rx_m128 101 L S (rz_mk h ι, w) := rz_s1 fun _ => rfl
theorem g128_100 : rg Z d rx_m128 100 L S (rz_mk h ι, w) = rg Z d rx_m128 101 L (.int 0 :: S) (rz_mk h ι, w) := rz_s1 fun _ => rfl
theorem g128_101 : rg Z d rx_m128 101 L [.int x] (rz_mk h ι, w) = some (.inl (some (.int x)), (rz_mk h ι, w)) := rz_reti rfl rfl rfl
theorem g128_102 : rg Z d rx_m128 102 [some (.ref a), l1, l2] S (rz_mk h ι, w) = rg Z d rx_m128 103 [some (.ref a), l1, l2] (.ref a :: S) (rz_mk h ι, w) := rz_s1 fun _ => rfl
theorem g128_103 (c : rz_fR h a 11 11) : rg Z d rx_m128 103 L (.ref a :: S) (rz_mk h ι, w) = rg Z d rx_m128 106 L (rz_rv h a 11 :: S) (rz_mk h ι, w) := rz_gR rfl (by decide) c
theorem g128_106 : rg Z d rx_m128 106 [l0, some (.int x), l2] S (rz_mk h ι, w) = rg Z d rx_m128 107 [l0, some (.int x), l2] (.int x :: S) (rz_mk h ι, w) := rz_s1 fun _ => rfl
theorem g128_107 (c : rz_oc h a 8) : rg Z d rx_m128 107 L (v1 :: .ref a :: []) (rz_mk h ι, w) = rz_k true (rz_f Z d 76 [.ref a, v1] (rz_mk h ι, w)) (fun v σ' => rg Z d rx_m128 110 L (v.toList ++ []) σ') := rz_cv (pc := 107) (n := 1) (mi := 76) (S := v1 :: .ref a :: []) (rest := []) rfl rfl (Nat.le_of_ble_eq_true rfl) (Nat.le_of_ble_eq_true rfl) c
theorem g128_110 : rg Z d rx_m128 110 L [.int x] (rz_mk h ι, w) = some (.inl (some (.int x)), (rz_mk h ι, w)) := rz_reti rfl rfl rfl
theorem g128_111 : rg Z d rx_m128 111 [some (.ref a), l1, l2] S (rz_mk h ι, w) = rg Z d rx_m128 112 [some (.ref a), l1, l2] (.ref a :: S) (rz_mk h ι, w) := rz_s1 fun _ => rfl
theorem g128_112 (c : rz_fR h a 11 10) : rg Z d rx_m128 112 L (.ref a :: S) (rz_mk h ι, w) = rg Z d rx_m128 115 L (rz_rv h a 10 :: S) (rz_mk h ι, w) := rz_gR rfl (by decide) c
theorem g128_115 : rg Z d rx_m128 115 [some (.ref a), l1, l2] S (rz_mk h ι, w) = rg Z d rx_m128 116 [some (.ref a), l1, l2] (.ref a :: S) (rz_mk h ι, w) := rz_s1 fun _ => rfl
theorem g128_116 (c : rz_fR h a 11 11) : rg Z d rx_m128 116 L (.ref a :: S) (rz_mk h ι, w) = rg Z d rx_m128 119 L (rz_rv h a 11 :: S) (rz_mk h ι, w) := rz_gR rfl (by decide) c
theorem g128_119 : rg Z d rx_m128 119 [l0, some (.int x), l2] S (rz_mk h ι, w) = rg Z d rx_m128 120 [l0, some (.int x), l2] (.int x :: S) (rz_mk h ι, w) := rz_s1 fun _ => rfl
theorem g128_120 (c : rz_oc h a 5) : rg Z d rx_m128 120 L (v2 :: v1 :: .ref a :: []) (rz_mk h ι, w) = rz_k true (rz_f Z d 49 [.ref a, v1, v2] (rz_mk h ι, w)) (fun v σ' => rg Z d rx_m128 123 L (v.toList ++ []) σ') := rz_cv (pc := 120) (n := 2) (mi := 49) (S := v2 :: v1 :: .ref a :: []) (rest := []) rfl rfl (Nat.le_of_ble_eq_true rfl) (Nat.le_of_ble_eq_true rfl) c
theorem g128_123 : rg Z d rx_m128 123 L [.int x] (rz_mk h ι, w) = some (.inl (some (.int x)), (rz_mk h ι, w)) := rz_reti rfl rfl rfl
theorem e128 : rz_f Z (d + 1) 128 [.ref t0, .int s1, .int s2] σ = rg Z d rx_m128 0 [some (.ref t0), some (.int s1), some (.int s2)] [] σ := rz_f_eq rfl (Nat.le_of_ble_eq_true rfl)
theorem g129_0 : rg Z d rx_m129 0 [some (.ref a), l1, l2] S (rz_mk h ι, w) = rg Z d rx_m129 1 [some (.ref a), l1, l2] (.ref a :: S) (rz_mk h ι, w) := rz_s1 fun _ => rfl
theorem g129_1 : rg Z d rx_m129 1 [l0, some (.int x), l2] S (rz_mk h ι, w) = rg Z d rx_m129 2 [l0, some (.int x), l2] (.int x :: S) (rz_mk h ι, w) := rz_s1 fun _ => rfl
theorem g129_2 (c : rz_oc h a 11) : rg Z d rx_m129 2 L (v1 :: .ref a :: []) (rz_mk h ι, w) = rz_k true (rz_f Z d 164 [.ref a, v1] (rz_mk h ι, w)) (fun v σ' => rg Z d rx_m129 5 L (v.toList ++ []) σ') := rz_cv (pc := 2) (n := 1) (mi := 164) (S := v1 :: .ref a :: []) (rest := []) rfl rfl (Nat.le_of_ble_eq_true rfl) (Nat.le_of_ble_eq_true rfl) c
theorem g129_5 : rg Z d rx_m129 5 [some (.ref a), l1, l2] S (rz_mk h ι, w) = rg Z d rx_m129 6 [some (.ref a), l1, l2] (.ref a :: S) (rz_mk h ι, w) := rz_s1 fun _ => rfl
theorem g129_6 : rg Z d rx_m129 6 [l0, l1, some (.int x)] S (rz_mk h ι, w) = rg Z d rx_m129 7 [l0, l1, some (.int x)] (.int x :: S) (rz_mk h ι, w) := rz_s1 fun _ => rfl
theorem g129_7 (c : rz_oc h a 11) : rg Z d rx_m129 7 L (v1 :: .ref a :: []) (rz_mk h ι, w) = rz_k true (rz_f Z d 164 [.ref a, v1] (rz_mk h ι, w)) (fun v σ' => rg Z d rx_m129 10 L (v.toList ++ []) σ') := rz_cv (pc := 7) (n := 1) (mi := 164) (S := v1 :: .ref a :: []) (rest := []) rfl rfl (Nat.le_of_ble_eq_true rfl) (Nat.le_of_ble_eq_true rfl) c
theorem g129_10 : rg Z d rx_m129 10 [some (.ref a), l1, l2] S (rz_mk h ι, w) = rg Z d rx_m129 11 [some (.ref a), l1, l2] (.ref a :: S) (rz_mk h ι, w) := rz_s1 fun _ => rfl
theorem g129_11 (c : rz_fR h a 11 10) : rg Z d rx_m129 11 L (.ref a :: S) (rz_mk h ι, w) = rg Z d rx_m129 14 L (rz_rv h a 10 :: S) (rz_mk h ι, w) := rz_gR rfl (by decide) c
theorem g129_14 : rg Z d rx_m129 14 [some (.ref a), l1, l2] S (rz_mk h ι, w) = rg Z d rx_m129 15 [some (.ref a), l1, l2] (.ref a :: S) (rz_mk h ι, w) := rz_s1 fun _ => rfl
theorem g129_15 (c : rz_fR h a 11 11) : rg Z d rx_m129 15 L (.ref a :: S) (rz_mk h ι, w) = rg Z d rx_m129 18 L (rz_rv h a 11 :: S) (rz_mk h ι, w) := rz_gR rfl (by decide) c
theorem g129_18 : rg Z d rx_m129 18 [l0, some (.int x), l2] S (rz_mk h ι, w) = rg Z d rx_m129 19 [l0, some (.int x), l2] (.int x :: S) (rz_mk h ι, w) := rz_s1 fun _ => rfl
theorem g129_19 : rg Z d rx_m129 19 [l0, l1, some (.int x)] S (rz_mk h ι, w) = rg Z d rx_m129 20 [l0, l1, some (.int x)] (.int x :: S) (rz_mk h ι, w) := rz_s1 fun _ => rfl
theorem g129_20 (c : rz_oc h a 5) : rg Z d rx_m129 20 L (v3 :: v2 :: v1 :: .ref a :: []) (rz_mk h ι, w) = rz_k true (rz_f Z d 48 [.ref a, v1, v2, v3] (rz_mk h ι, w)) (fun v σ' => rg Z d rx_m129 23 L (v.toList ++ []) σ') := rz_cv (pc := 20) (n := 3) (mi := 48) (S := v3 :: v2 :: v1 :: .ref a :: []) (rest := []) rfl rfl (Nat.le_of_ble_eq_true rfl) (Nat.le_of_ble_eq_true rfl) c
theorem g129_23 : rg Z d rx_m129 23 L [.int x] (rz_mk h ι, w) = some (.inl (some (.int x)), (rz_mk h ι, w)) := rz_reti rfl rfl rfl
theorem e129 : rz_f Z (d + 1) 129 [.ref t0, .int s1, .int s2] σ = rg Z d rx_m129 0 [some (.ref t0), some (.int s1), some (.int s2)] [] σ := rz_f_eq rfl (Nat.le_of_ble_eq_true rfl)
theorem g130_0 : rg Z d rx_m130 0 [some (.ref a), l1, l2, l3, l4, l5, l6, l7, l8] S (rz_mk h ι, w) = rg Z d rx_m130 1 [some (.ref a), l1, l2, l3, l4, l5, l6, l7, l8] (.ref a :: S) (rz_mk h ι, w) := rz_s1 fun _ => rfl
theorem g130_1 : rg Z d rx_m130 1 [l0, some (.int x), l2, l3, l4, l5, l6, l7, l8] S (rz_mk h ι, w) = rg Z d rx_m130 2 [l0, some (.int x), l2, l3, l4, l5, l6, l7, l8] (.int x :: S) (rz_mk h ι, w) := rz_s1 fun _ => rfl
theorem g130_2 : rg Z d rx_m130 2 L S (rz_mk h ι, w) = rg Z d rx_m130 3 L (.int 0 :: S) (rz_mk h ι, w) := rz_s1 fun _ => rfl
theorem g130_3 : rg Z d rx_m130 3 L S (rz_mk h ι, w) = rg Z d rx_m130 5 L (.int 9 :: S) (rz_mk h ι, w) := rz_s1 fun _ => rfl
theorem g130_5 : rg Z d rx_m130 5 L (v3 :: v2 :: v1 :: [.ref t0]) (rz_mk h ι, w) = rz_k true (rz_f Z d 161 [v1, v2, v3] (rz_mk h ι, w)) (fun v σ' => rg Z d rx_m130 8 L (v.toList ++ [.ref t0]) σ') := rz_cs (pc := 5) (n := 3) (mi := 161) (S := v3 :: v2 :: v1 :: [.ref t0]) (rest := [.ref t0]) rfl rfl (Nat.le_of_ble_eq_true rfl) (Nat.le_of_ble_eq_true rfl)
theorem g130_8 : rg Z d rx_m130 8 L (.int x :: S) (rz_mk h ι, w) = if x = 0 then rg Z d rx_m130 35 L S (rz_mk h ι, w) else rg Z d rx_m130 11 L S (rz_mk h ι, w) := rz_if1 (pc := 8) (t := 35) (off := 27) (cc := .eq) (by decide) rfl
theorem g130_11 : rg Z d rx_m130 11 [l0, l1, some (.int x), l3, l4, l5, l6, l7, l8] S (rz_mk h ι, w) = rg Z d rx_m130 12 [l0, l1, some (.int x), l3, l4, l5, l6, l7, l8] (.int x :: S) (rz_mk h ι, w) := rz_s1 fun _ => rfl
theorem g130_12 : rg Z d rx_m130 12 L S (rz_mk h ι, w) = rg Z d rx_m130 13 L (.int 0 :: S) (rz_mk h ι, w) := rz_s1 fun _ => rfl
theorem g130_13 : rg Z d rx_m130 13 L S (rz_mk h ι, w) = rg Z d rx_m130 15 L (.int 9 :: S) (rz_mk h ι, w) := rz_s1 fun _ => rfl
theorem g130_15 : rg Z d rx_m130 15 L (v3 :: v2 :: v1 :: [.ref t0]) (rz_mk h ι, w) = rz_k true (rz_f Z d 161 [v1, v2, v3] (rz_mk h ι, w)) (fun v σ' => rg Z d rx_m130 18 L (v.toList ++ [.ref t0]) σ') := rz_cs (pc := 15) (n := 3) (mi := 161) (S := v3 :: v2 :: v1 :: [.ref t0]) (rest := [.ref t0]) rfl rfl (Nat.le_of_ble_eq_true rfl) (Nat.le_of_ble_eq_true rfl)
theorem g130_18 : rg Z d rx_m130 18 L (.int x :: S) (rz_mk h ι, w) = if x = 0 then rg Z d rx_m130 35 L S (rz_mk h ι, w) else rg Z d rx_m130 21 L S (rz_mk h ι, w) := rz_if1 (pc := 18) (t := 35) (off := 17) (cc := .eq) (by decide) rfl
theorem g130_21 : rg Z d rx_m130 21 [l0, l1, l2, some (.int x), l4, l5, l6, l7, l8] S (rz_mk h ι, w) = rg Z d rx_m130 22 [l0, l1, l2, some (.int x), l4, l5, l6, l7, l8] (.int x :: S) (rz_mk h ι, w) := rz_s1 fun _ => rfl
theorem g130_22 : rg Z d rx_m130 22 L S (rz_mk h ι, w) = rg Z d rx_m130 23 L (.int 0 :: S) (rz_mk h ι, w) := rz_s1 fun _ => rfl
theorem g130_23 : rg Z d rx_m130 23 L S (rz_mk h ι, w) = rg Z d rx_m130 25 L (.int 9 :: S) (rz_mk h ι, w) := rz_s1 fun _ => rfl
theorem g130_25 : rg Z d rx_m130 25 L (v3 :: v2 :: v1 :: [.ref t0]) (rz_mk h ι, w) = rz_k true (rz_f Z d 161 [v1, v2, v3] (rz_mk h ι, w)) (fun v σ' => rg Z d rx_m130 28 L (v.toList ++ [.ref t0]) σ') := rz_cs (pc := 25) (n := 3) (mi := 161) (S := v3 :: v2 :: v1 :: [.ref t0]) (rest := [.ref t0]) rfl rfl (Nat.le_of_ble_eq_true rfl) (Nat.le_of_ble_eq_true rfl)
theorem g130_28 : rg Z d rx_m130 28 L (.int x :: S) (rz_mk h ι, w) = if x = 0 then rg Z d rx_m130 35 L S (rz_mk h ι, w) else rg Z d rx_m130 31 L S (rz_mk h ι, w) := rz_if1 (pc := 28) (t := 35) (off := 7) (cc := .eq) (by decide) rfl
theorem g130_31 : rg Z d rx_m130 31 L S (rz_mk h ι, w) = rg Z d rx_m130 32 L (.int 1 :: S) (rz_mk h ι, w) := rz_s1 fun _ => rfl
theorem g130_32 : rg Z d rx_m130 32 L S (rz_mk h ι, w) = rg Z d rx_m130 36 L S (rz_mk h ι, w) := rz_s1 fun _ => rfl
theorem g130_35 : rg Z d rx_m130 35 L S (rz_mk h ι, w) = rg Z d rx_m130 36 L (.int 0 :: S) (rz_mk h ι, w) := rz_s1 fun _ => rfl
theorem g130_36 (c : rz_oc h a 11) : rg Z d rx_m130 36 L (v1 :: .ref a :: []) (rz_mk h ι, w) = rz_k true (rz_f Z d 162 [.ref a, v1] (rz_mk h ι, w)) (fun v σ' => rg Z d rx_m130 39 L (v.toList ++ []) σ') := rz_cv (pc := 36) (n := 1) (mi := 162) (S := v1 :: .ref a :: []) (rest := []) rfl rfl (Nat.le_of_ble_eq_true rfl) (Nat.le_of_ble_eq_true rfl) c
theorem g130_39 : rg Z d rx_m130 39 [some (.ref a), l1, l2, l3, l4, l5, l6, l7, l8] S (rz_mk h ι, w) = rg Z d rx_m130 40 [some (.ref a), l1, l2, l3, l4, l5, l6, l7, l8] (.ref a :: S) (rz_mk h ι, w) := rz_s1 fun _ => rfl
theorem g130_40 : rg Z d rx_m130 40 [l0, l1, l2, l3, some (.int x), l5, l6, l7, l8] S (rz_mk h ι, w) = rg Z d rx_m130 42 [l0, l1, l2, l3, some (.int x), l5, l6, l7, l8] (.int x :: S) (rz_mk h ι, w) := rz_s1 fun _ => rfl
theorem g130_42 : rg Z d rx_m130 42 L S (rz_mk h ι, w) = rg Z d rx_m130 43 L (.int 0 :: S) (rz_mk h ι, w) := rz_s1 fun _ => rfl
theorem g130_43 : rg Z d rx_m130 43 L S (rz_mk h ι, w) = rg Z d rx_m130 44 L (.int 3 :: S) (rz_mk h ι, w) := rz_s1 fun _ => rfl
theorem g130_44 : rg Z d rx_m130 44 L (v3 :: v2 :: v1 :: [.ref t0]) (rz_mk h ι, w) = rz_k true (rz_f Z d 161 [v1, v2, v3] (rz_mk h ι, w)) (fun v σ' => rg Z d rx_m130 47 L (v.toList ++ [.ref t0]) σ') := rz_cs (pc := 44) (n := 3) (mi := 161) (S := v3 :: v2 :: v1 :: [.ref t0]) (rest := [.ref t0]) rfl rfl (Nat.le_of_ble_eq_true rfl) (Nat.le_of_ble_eq_true rfl)
theorem g130_47 : rg Z d rx_m130 47 L (.int x :: S) (rz_mk h ι, w) = if x = 0 then rg Z d rx_m130 66 L S (rz_mk h ι, w) else rg Z d rx_m130 50 L S (rz_mk h ι, w) := rz_if1 (pc := 47) (t := 66) (off := 19) (cc := .eq) (by decide) rfl
theorem g130_50 : rg Z d rx_m130 50 [l0, l1, l2, l3, l4, some (.int x), l6, l7, l8] S (rz_mk h ι, w) = rg Z d rx_m130 52 [l0, l1, l2, l3, l4, some (.int x), l6, l7, l8] (.int x :: S) (rz_mk h ι, w) := rz_s1 fun _ => rfl
theorem g130_52 : rg Z d rx_m130 52 L S (rz_mk h ι, w) = rg Z d rx_m130 53 L (.int 0 :: S) (rz_mk h ι, w) := rz_s1 fun _ => rfl
theorem g130_53 : rg Z d rx_m130 53 L S (rz_mk h ι, w) = rg Z d rx_m130 56 L (.int 999 :: S) (rz_mk h ι, w) := rz_s1 fun _ => rfl
theorem g130_56 : rg Z d rx_m130 56 L (v3 :: v2 :: v1 :: [.ref t0]) (rz_mk h ι, w) = rz_k true (rz_f Z d 161 [v1, v2, v3] (rz_mk h ι, w)) (fun v σ' => rg Z d rx_m130 59 L (v.toList ++ [.ref t0]) σ') := rz_cs (pc := 56) (n := 3) (mi := 161) (S := v3 :: v2 :: v1 :: [.ref t0]) (rest := [.ref t0]) rfl rfl (Nat.le_of_ble_eq_true rfl) (Nat.le_of_ble_eq_true rfl)
theorem g130_59 : rg Z d rx_m130 59 L (.int x :: S) (rz_mk h ι, w) = if x = 0 then rg Z d rx_m130 66 L S (rz_mk h ι, w) else rg Z d rx_m130 62 L S (rz_mk h ι, w) := rz_if1 (pc := 59) (t := 66) (off := 7) (cc := .eq) (by decide) rfl
theorem g130_62 : rg Z d rx_m130 62 L S (rz_mk h ι, w) = rg Z d rx_m130 63 L (.int 1 :: S) (rz_mk h ι, w) := rz_s1 fun _ => rfl
theorem g130_63 : rg Z d rx_m130 63 L S (rz_mk h ι, w) = rg Z d rx_m130 67 L S (rz_mk h ι, w) := rz_s1 fun _ => rfl
theorem g130_66 : rg Z d rx_m130 66 L S (rz_mk h ι, w) = rg Z d rx_m130 67 L (.int 0 :: S) (rz_mk h ι, w) := rz_s1 fun _ => rfl
theorem g130_67 (c : rz_oc h a 11) : rg Z d rx_m130 67 L (v1 :: .ref a :: []) (rz_mk h ι, w) = rz_k true (rz_f Z d 162 [.ref a, v1] (rz_mk h ι, w)) (fun v σ' => rg Z d rx_m130 70 L (v.toList ++ []) σ') := rz_cv (pc := 67) (n := 1) (mi := 162) (S := v1 :: .ref a :: []) (rest := []) rfl rfl (Nat.le_of_ble_eq_true rfl) (Nat.le_of_ble_eq_true rfl) c
theorem g130_70 : rg Z d rx_m130 70 [some (.ref a), l1, l2, l3, l4, l5, l6, l7, l8] S (rz_mk h ι, w) = rg Z d rx_m130 71 [some (.ref a), l1, l2, l3, l4, l5, l6, l7, l8] (.ref a :: S) (rz_mk h ι, w) := rz_s1 fun _ => rfl
theorem g130_71 : rg Z d rx_m130 71 [l0, l1, l2, l3, l4, l5, some (.int x), l7, l8] S (rz_mk h ι, w) = rg Z d rx_m130 73 [l0, l1, l2, l3, l4, l5, some (.int x), l7, l8] (.int x :: S) (rz_mk h ι, w) := rz_s1 fun _ => rfl
theorem g130_73 : rg Z d rx_m130 73 L S (rz_mk h ι, w) = rg Z d rx_m130 74 L (.int 0 :: S) (rz_mk h ι, w) := rz_s1 fun _ => rfl
theorem g130_74 : rg Z d rx_m130 74 L S (rz_mk h ι, w) = rg Z d rx_m130 77 L (.int 900 :: S) (rz_mk h ι, w) := rz_s1 fun _ => rfl
theorem g130_77 : rg Z d rx_m130 77 L (v3 :: v2 :: v1 :: [.ref t0]) (rz_mk h ι, w) = rz_k true (rz_f Z d 161 [v1, v2, v3] (rz_mk h ι, w)) (fun v σ' => rg Z d rx_m130 80 L (v.toList ++ [.ref t0]) σ') := rz_cs (pc := 77) (n := 3) (mi := 161) (S := v3 :: v2 :: v1 :: [.ref t0]) (rest := [.ref t0]) rfl rfl (Nat.le_of_ble_eq_true rfl) (Nat.le_of_ble_eq_true rfl)
theorem g130_80 : rg Z d rx_m130 80 L (.int x :: S) (rz_mk h ι, w) = if x = 0 then rg Z d rx_m130 110 L S (rz_mk h ι, w) else rg Z d rx_m130 83 L S (rz_mk h ι, w) := rz_if1 (pc := 80) (t := 110) (off := 30) (cc := .eq) (by decide) rfl
theorem g130_83 : rg Z d rx_m130 83 [l0, l1, l2, l3, l4, l5, l6, some (.int x), l8] S (rz_mk h ι, w) = rg Z d rx_m130 85 [l0, l1, l2, l3, l4, l5, l6, some (.int x), l8] (.int x :: S) (rz_mk h ι, w) := rz_s1 fun _ => rfl
theorem g130_85 : rg Z d rx_m130 85 L S (rz_mk h ι, w) = rg Z d rx_m130 86 L (.int 0 :: S) (rz_mk h ι, w) := rz_s1 fun _ => rfl
theorem g130_86 : rg Z d rx_m130 86 L S (rz_mk h ι, w) = rg Z d rx_m130 89 L (.int 900 :: S) (rz_mk h ι, w) := rz_s1 fun _ => rfl
theorem g130_89 : rg Z d rx_m130 89 L (v3 :: v2 :: v1 :: [.ref t0]) (rz_mk h ι, w) = rz_k true (rz_f Z d 161 [v1, v2, v3] (rz_mk h ι, w)) (fun v σ' => rg Z d rx_m130 92 L (v.toList ++ [.ref t0]) σ') := rz_cs (pc := 89) (n := 3) (mi := 161) (S := v3 :: v2 :: v1 :: [.ref t0]) (rest := [.ref t0]) rfl rfl (Nat.le_of_ble_eq_true rfl) (Nat.le_of_ble_eq_true rfl)
theorem g130_92 : rg Z d rx_m130 92 L (.int x :: S) (rz_mk h ι, w) = if x = 0 then rg Z d rx_m130 110 L S (rz_mk h ι, w) else rg Z d rx_m130 95 L S (rz_mk h ι, w) := rz_if1 (pc := 92) (t := 110) (off := 18) (cc := .eq) (by decide) rfl
theorem g130_95 : rg Z d rx_m130 95 [l0, l1, l2, l3, l4, l5, l6, l7, some (.int x)] S (rz_mk h ι, w) = rg Z d rx_m130 97 [l0, l1, l2, l3, l4, l5, l6, l7, some (.int x)] (.int x :: S) (rz_mk h ι, w) := rz_s1 fun _ => rfl
theorem g130_97 : rg Z d rx_m130 97 L S (rz_mk h ι, w) = rg Z d rx_m130 98 L (.int 0 :: S) (rz_mk h ι, w) := rz_s1 fun _ => rfl
theorem g130_98 : rg Z d rx_m130 98 L S (rz_mk h ι, w) = rg Z d rx_m130 100 L (.int 8 :: S) (rz_mk h ι, w) := rz_s1 fun _ => rfl
theorem g130_100 : rg Z d rx_m130 100 L (v3 :: v2 :: v1 :: [.ref t0]) (rz_mk h ι, w) = rz_k true (rz_f Z d 161 [v1, v2, v3] (rz_mk h ι, w)) (fun v σ' => rg Z d rx_m130 103 L (v.toList ++ [.ref t0]) σ') := rz_cs (pc := 100) (n := 3) (mi := 161) (S := v3 :: v2 :: v1 :: [.ref t0]) (rest := [.ref t0]) rfl rfl (Nat.le_of_ble_eq_true rfl) (Nat.le_of_ble_eq_true rfl)
theorem g130_103 : rg Z d rx_m130 103 L (.int x :: S) (rz_mk h ι, w) = if x = 0 then rg Z d rx_m130 110 L S (rz_mk h ι, w) else rg Z d rx_m130 106 L S (rz_mk h ι, w) := rz_if1 (pc := 103) (t := 110) (off := 7) (cc := .eq) (by decide) rfl
theorem g130_106 : rg Z d rx_m130 106 L S (rz_mk h ι, w) = rg Z d rx_m130 107 L (.int 1 :: S) (rz_mk h ι, w) := rz_s1 fun _ => rfl
theorem g130_107 : rg Z d rx_m130 107 L S (rz_mk h ι, w) = rg Z d rx_m130 111 L S (rz_mk h ι, w) := rz_s1 fun _ => rfl
theorem g130_110 : rg Z d rx_m130 110 L S (rz_mk h ι, w) = rg Z d rx_m130 111 L (.int 0 :: S) (rz_mk h ι, w) := rz_s1 fun _ => rfl
theorem g130_111 (c : rz_oc h a 11) : rg Z d rx_m130 111 L (v1 :: .ref a :: []) (rz_mk h ι, w) = rz_k true (rz_f Z d 162 [.ref a, v1] (rz_mk h ι, w)) (fun v σ' => rg Z d rx_m130 114 L (v.toList ++ []) σ') := rz_cv (pc := 111) (n := 1) (mi := 162) (S := v1 :: .ref a :: []) (rest := []) rfl rfl (Nat.le_of_ble_eq_true rfl) (Nat.le_of_ble_eq_true rfl) c
theorem g130_114 : rg Z d rx_m130 114 [some (.ref a), l1, l2, l3, l4, l5, l6, l7, l8] S (rz_mk h ι, w) = rg Z d rx_m130 115 [some (.ref a), l1, l2, l3, l4, l5, l6, l7, l8] (.ref a :: S) (rz_mk h ι, w) := rz_s1 fun _ => rfl
theorem g130_115 (c : rz_fR h a 11 10) : rg Z d rx_m130 115 L (.ref a :: S) (rz_mk h ι, w) = rg Z d rx_m130 118 L (rz_rv h a 10 :: S) (rz_mk h ι, w) := rz_gR rfl (by decide) c
theorem g130_118 : rg Z d rx_m130 118 [l0, l1, l2, l3, some (.int x), l5, l6, l7, l8] S (rz_mk h ι, w) = rg Z d rx_m130 120 [l0, l1, l2, l3, some (.int x), l5, l6, l7, l8] (.int x :: S) (rz_mk h ι, w) := rz_s1 fun _ => rfl
theorem g130_120 : rg Z d rx_m130 120 [l0, l1, l2, l3, l4, some (.int x), l6, l7, l8] S (rz_mk h ι, w) = rg Z d rx_m130 122 [l0, l1, l2, l3, l4, some (.int x), l6, l7, l8] (.int x :: S) (rz_mk h ι, w) := rz_s1 fun _ => rfl
theorem g130_122 : rg Z d rx_m130 122 [l0, l1, l2, l3, l4, l5, some (.int x), l7, l8] S (rz_mk h ι, w) = rg Z d rx_m130 124 [l0, l1, l2, l3, l4, l5, some (.int x), l7, l8] (.int x :: S) (rz_mk h ι, w) := rz_s1 fun _ => rfl
theorem g130_124 : rg Z d rx_m130 124 [l0, l1, l2, l3, l4, l5, l6, some (.int x), l8] S (rz_mk h ι, w) = rg Z d rx_m130 126 [l0, l1, l2, l3, l4, l5, l6, some (.int x), l8] (.int x :: S) (rz_mk h ι, w) := rz_s1 fun _ => rfl
theorem g130_126 : rg Z d rx_m130 126 [l0, l1, l2, l3, l4, l5, l6, l7, some (.int x)] S (rz_mk h ι, w) = rg Z d rx_m130 128 [l0, l1, l2, l3, l4, l5, l6, l7, some (.int x)] (.int x :: S) (rz_mk h ι, w) := rz_s1 fun _ => rfl
theorem g130_128 (c : rz_oc h a 5) : rg Z d rx_m130 128 L (v5 :: v4 :: v3 :: v2 :: v1 :: .ref a :: []) (rz_mk h ι, w) = rz_k true (rz_f Z d 44 [.ref a, v1, v2, v3, v4, v5] (rz_mk h ι, w)) (fun v σ' => rg Z d rx_m130 131 L (v.toList ++ []) σ') := rz_cv (pc := 128) (n := 5) (mi := 44) (S := v5 :: v4 :: v3 :: v2 :: v1 :: .ref a :: []) (rest := []) rfl rfl (Nat.le_of_ble_eq_true rfl) (Nat.le_of_ble_eq_true rfl) c
theorem g130_131 : rg Z d rx_m130 131 [some (.ref a), l1, l2, l3, l4, l5, l6, l7, l8] S (rz_mk h ι, w) = rg Z d rx_m130 132 [some (.ref a), l1, l2, l3, l4, l5, l6, l7, l8] (.ref a :: S) (rz_mk h ι, w) := rz_s1 fun _ => rfl
theorem g130_132 (c : rz_fR h a 11 10) : rg Z d rx_m130 132 L (.ref a :: S) (rz_mk h ι, w) = rg Z d rx_m130 135 L (rz_rv h a 10 :: S) (rz_mk h ι, w) := rz_gR rfl (by decide) c
theorem g130_135 : rg Z d rx_m130 135 [l0, some (.int x), l2, l3, l4, l5, l6, l7, l8] S (rz_mk h ι, w) = rg Z d rx_m130 136 [l0, some (.int x), l2, l3, l4, l5, l6, l7, l8] (.int x :: S) (rz_mk h ι, w) := rz_s1 fun _ => rfl
theorem g130_136 : rg Z d rx_m130 136 [l0, l1, some (.int x), l3, l4, l5, l6, l7, l8] S (rz_mk h ι, w) = rg Z d rx_m130 137 [l0, l1, some (.int x), l3, l4, l5, l6, l7, l8] (.int x :: S) (rz_mk h ι, w) := rz_s1 fun _ => rfl
theorem g130_137 : rg Z d rx_m130 137 [l0, l1, l2, some (.int x), l4, l5, l6, l7, l8] S (rz_mk h ι, w) = rg Z d rx_m130 138 [l0, l1, l2, some (.int x), l4, l5, l6, l7, l8] (.int x :: S) (rz_mk h ι, w) := rz_s1 fun _ => rfl
theorem g130_138 (c : rz_oc h a 5) : rg Z d rx_m130 138 L (v3 :: v2 :: v1 :: .ref a :: []) (rz_mk h ι, w) = rz_k true (rz_f Z d 46 [.ref a, v1, v2, v3] (rz_mk h ι, w)) (fun v σ' => rg Z d rx_m130 141 L (v.toList ++ []) σ') := rz_cv (pc := 138) (n := 3) (mi := 46) (S := v3 :: v2 :: v1 :: .ref a :: []) (rest := []) rfl rfl (Nat.le_of_ble_eq_true rfl) (Nat.le_of_ble_eq_true rfl) c
theorem g130_141 : rg Z d rx_m130 141 L [.int x] (rz_mk h ι, w) = some (.inl (some (.int x)), (rz_mk h ι, w)) := rz_reti rfl rfl rfl
theorem e130 : rz_f Z (d + 1) 130 [.ref t0, .int s1, .int s2, .int s3, .int s4, .int s5, .int s6, .int s7, .int s8] σ = rg Z d rx_m130 0 [some (.ref t0), some (.int s1), some (.int s2), some (.int s3), some (.int s4), some (.int s5), some (.int s6), some (.int s7), some (.int s8)] [] σ := rz_f_eq rfl (Nat.le_of_ble_eq_true rfl)
theorem g131_0 : rg Z d rx_m131 0 [some (.ref a), l1, l2, l3] S (rz_mk h ι, w) = rg Z d rx_m131 1 [some (.ref a), l1, l2, l3] (.ref a :: S) (rz_mk h ι, w) := rz_s1 fun _ => rfl
theorem g131_1 : rg Z d rx_m131 1 [l0, some (.int x), l2, l3] S (rz_mk h ι, w) = rg Z d rx_m131 2 [l0, some (.int x), l2, l3] (.int x :: S) (rz_mk h ι, w) := rz_s1 fun _ => rfl
theorem g131_2 : rg Z d rx_m131 2 L S (rz_mk h ι, w) = rg Z d rx_m131 3 L (.int 0 :: S) (rz_mk h ι, w) := rz_s1 fun _ => rfl
theorem g131_3 : rg Z d rx_m131 3 L S (rz_mk h ι, w) = rg Z d rx_m131 5 L (.int 99 :: S) (rz_mk h ι, w) := rz_s1 fun _ => rfl
theorem g131_5 : rg Z d rx_m131 5 L (v3 :: v2 :: v1 :: [.ref t0]) (rz_mk h ι, w) = rz_k true (rz_f Z d 161 [v1, v2, v3] (rz_mk h ι, w)) (fun v σ' => rg Z d rx_m131 8 L (v.toList ++ [.ref t0]) σ') := rz_cs (pc := 5) (n := 3) (mi := 161) (S := v3 :: v2 :: v1 :: [.ref t0]) (rest := [.ref t0]) rfl rfl (Nat.le_of_ble_eq_true rfl) (Nat.le_of_ble_eq_true rfl)
theorem g131_8 : rg Z d rx_m131 8 L (.int x :: S) (rz_mk h ι, w) = if x = 0 then rg Z d rx_m131 24 L S (rz_mk h ι, w) else rg Z d rx_m131 11 L S (rz_mk h ι, w) := rz_if1 (pc := 8) (t := 24) (off := 16) (cc := .eq) (by decide) rfl
theorem g131_11 : rg Z d rx_m131 11 [l0, l1, some (.int x), l3] S (rz_mk h ι, w) = rg Z d rx_m131 12 [l0, l1, some (.int x), l3] (.int x :: S) (rz_mk h ι, w) := rz_s1 fun _ => rfl
theorem g131_12 : rg Z d rx_m131 12 L S (rz_mk h ι, w) = rg Z d rx_m131 13 L (.int 0 :: S) (rz_mk h ι, w) := rz_s1 fun _ => rfl
theorem g131_13 : rg Z d rx_m131 13 L S (rz_mk h ι, w) = rg Z d rx_m131 14 L (.int 2 :: S) (rz_mk h ι, w) := rz_s1 fun _ => rfl
theorem g131_14 : rg Z d rx_m131 14 L (v3 :: v2 :: v1 :: [.ref t0]) (rz_mk h ι, w) = rz_k true (rz_f Z d 161 [v1, v2, v3] (rz_mk h ι, w)) (fun v σ' => rg Z d rx_m131 17 L (v.toList ++ [.ref t0]) σ') := rz_cs (pc := 14) (n := 3) (mi := 161) (S := v3 :: v2 :: v1 :: [.ref t0]) (rest := [.ref t0]) rfl rfl (Nat.le_of_ble_eq_true rfl) (Nat.le_of_ble_eq_true rfl)
theorem g131_17 : rg Z d rx_m131 17 L (.int x :: S) (rz_mk h ι, w) = if x = 0 then rg Z d rx_m131 24 L S (rz_mk h ι, w) else rg Z d rx_m131 20 L S (rz_mk h ι, w) := rz_if1 (pc := 17) (t := 24) (off := 7) (cc := .eq) (by decide) rfl
theorem g131_20 : rg Z d rx_m131 20 L S (rz_mk h ι, w) = rg Z d rx_m131 21 L (.int 1 :: S) (rz_mk h ι, w) := rz_s1 fun _ => rfl
theorem g131_21 : rg Z d rx_m131 21 L S (rz_mk h ι, w) = rg Z d rx_m131 25 L S (rz_mk h ι, w) := rz_s1 fun _ => rfl
theorem g131_24 : rg Z d rx_m131 24 L S (rz_mk h ι, w) = rg Z d rx_m131 25 L (.int 0 :: S) (rz_mk h ι, w) := rz_s1 fun _ => rfl
theorem g131_25 (c : rz_oc h a 11) : rg Z d rx_m131 25 L (v1 :: .ref a :: []) (rz_mk h ι, w) = rz_k true (rz_f Z d 162 [.ref a, v1] (rz_mk h ι, w)) (fun v σ' => rg Z d rx_m131 28 L (v.toList ++ []) σ') := rz_cv (pc := 25) (n := 1) (mi := 162) (S := v1 :: .ref a :: []) (rest := []) rfl rfl (Nat.le_of_ble_eq_true rfl) (Nat.le_of_ble_eq_true rfl) c
theorem g131_28 : rg Z d rx_m131 28 [some (.ref a), l1, l2, l3] S (rz_mk h ι, w) = rg Z d rx_m131 29 [some (.ref a), l1, l2, l3] (.ref a :: S) (rz_mk h ι, w) := rz_s1 fun _ => rfl
theorem g131_29 (c : rz_fR h a 11 7) : rg Z d rx_m131 29 L (.ref a :: S) (rz_mk h ι, w) = rg Z d rx_m131 32 L (rz_rv h a 7 :: S) (rz_mk h ι, w) := rz_gR rfl (by decide) c
theorem g131_32 : rg Z d rx_m131 32 [some (.ref a), l1, l2, l3] S (rz_mk h ι, w) = rg Z d rx_m131 33 [some (.ref a), l1, l2, l3] (.ref a :: S) (rz_mk h ι, w) := rz_s1 fun _ => rfl
theorem g131_33 (c : rz_fR h a 11 11) : rg Z d rx_m131 33 L (.ref a :: S) (rz_mk h ι, w) = rg Z d rx_m131 36 L (rz_rv h a 11 :: S) (rz_mk h ι, w) := rz_gR rfl (by decide) c
theorem g131_36 (c : rz_oc h a 8) : rg Z d rx_m131 36 L (v1 :: .ref a :: []) (rz_mk h ι, w) = rz_k true (rz_f Z d 66 [.ref a, v1] (rz_mk h ι, w)) (fun v σ' => rg Z d rx_m131 39 L (v.toList ++ []) σ') := rz_cv (pc := 36) (n := 1) (mi := 66) (S := v1 :: .ref a :: []) (rest := []) rfl rfl (Nat.le_of_ble_eq_true rfl) (Nat.le_of_ble_eq_true rfl) c
theorem g131_39 : rg Z d rx_m131 39 L S (rz_mk h ι, w) = rg Z d rx_m131 40 L (.int 0 :: S) (rz_mk h ι, w) := rz_s1 fun _ => rfl
theorem g131_40 : rg Z d rx_m131 40 [l0, l1, some (.int z), l3] (.int x :: S) (rz_mk h ι, w) = rg Z d rx_m131 41 [l0, l1, some (.int z), some (.int x)] S (rz_mk h ι, w) := rz_s1 fun _ => rfl
theorem g131_41 : rg Z d rx_m131 41 [l0, l1, l2, some (.int x)] S (rz_mk h ι, w) = rg Z d rx_m131 42 [l0, l1, l2, some (.int x)] (.int x :: S) (rz_mk h ι, w) := rz_s1 fun _ => rfl
theorem g131_42 : rg Z d rx_m131 42 [l0, some (.int x), l2, l3] S (rz_mk h ι, w) = rg Z d rx_m131 43 [l0, some (.int x), l2, l3] (.int x :: S) (rz_mk h ι, w) := rz_s1 fun _ => rfl
theorem g131_43 : rg Z d rx_m131 43 L (.int y :: .int x :: S) (rz_mk h ι, w) = if x < y then rg Z d rx_m131 46 L S (rz_mk h ι, w) else rg Z d rx_m131 59 L S (rz_mk h ι, w) := rz_if2 (pc := 43) (t := 59) (off := 16) (cc := .ge) (by decide) rfl
theorem g131_46 : rg Z d rx_m131 46 [some (.ref a), l1, l2, l3] S (rz_mk h ι, w) = rg Z d rx_m131 47 [some (.ref a), l1, l2, l3] (.ref a :: S) (rz_mk h ι, w) := rz_s1 fun _ => rfl
theorem g131_47 (c : rz_fR h a 11 7) : rg Z d rx_m131 47 L (.ref a :: S) (rz_mk h ι, w) = rg Z d rx_m131 50 L (rz_rv h a 7 :: S) (rz_mk h ι, w) := rz_gR rfl (by decide) c
theorem g131_50 (c : rz_oc h a 8) : rg Z d rx_m131 50 L (.ref a :: []) (rz_mk h ι, w) = rz_k true (rz_f Z d 86 [.ref a] (rz_mk h ι, w)) (fun v σ' => rg Z d rx_m131 53 L (v.toList ++ []) σ') := rz_cv (pc := 50) (n := 0) (mi := 86) (S := .ref a :: []) (rest := []) rfl rfl (Nat.le_of_ble_eq_true rfl) (Nat.le_of_ble_eq_true rfl) c
theorem g131_53 : rg Z d rx_m131 53 [l0, l1, some (.int z), some (.int x)] S (rz_mk h ι, w) = rg Z d rx_m131 56 [l0, l1, some (.int z), some (.int (x + 1))] S (rz_mk h ι, w) := rz_s1 fun _ => rfl
theorem g131_56 : rg Z d rx_m131 56 L S (rz_mk h ι, w) = rg Z d rx_m131 41 L S (rz_mk h ι, w) := rz_s1 fun _ => rfl
theorem g131_59 : rg Z d rx_m131 59 [l0, l1, some (.int x), l3] S (rz_mk h ι, w) = rg Z d rx_m131 60 [l0, l1, some (.int x), l3] (.int x :: S) (rz_mk h ι, w) := rz_s1 fun _ => rfl
theorem g131_60 : rg Z d rx_m131 60 L S (rz_mk h ι, w) = rg Z d rx_m131 61 L (.int 2 :: S) (rz_mk h ι, w) := rz_s1 fun _ => rfl
theorem g131_61 : rg Z d rx_m131 61 L (.int y :: .int x :: S) (rz_mk h ι, w) = if x = y then rg Z d rx_m131 64 L S (rz_mk h ι, w) else rg Z d rx_m131 85 L S (rz_mk h ι, w) := rz_if2 (pc := 61) (t := 85) (off := 24) (cc := .ne) (by decide) rfl
theorem g131_64 : rg Z d rx_m131 64 [some (.ref a), l1, l2, l3] S (rz_mk h ι, w) = rg Z d rx_m131 65 [some (.ref a), l1, l2, l3] (.ref a :: S) (rz_mk h ι, w) := rz_s1 fun _ => rfl
theorem g131_65 (c : rz_fR h a 11 10) : rg Z d rx_m131 65 L (.ref a :: S) (rz_mk h ι, w) = rg Z d rx_m131 68 L (rz_rv h a 10 :: S) (rz_mk h ι, w) := rz_gR rfl (by decide) c
theorem g131_68 : rg Z d rx_m131 68 [some (.ref a), l1, l2, l3] S (rz_mk h ι, w) = rg Z d rx_m131 69 [some (.ref a), l1, l2, l3] (.ref a :: S) (rz_mk h ι, w) := rz_s1 fun _ => rfl
theorem g131_69 (c : rz_fR h a 11 7) : rg Z d rx_m131 69 L (.ref a :: S) (rz_mk h ι, w) = rg Z d rx_m131 72 L (rz_rv h a 7 :: S) (rz_mk h ι, w) := rz_gR rfl (by decide) c
theorem g131_72 : rg Z d rx_m131 72 [some (.ref a), l1, l2, l3] S (rz_mk h ι, w) = rg Z d rx_m131 73 [some (.ref a), l1, l2, l3] (.ref a :: S) (rz_mk h ι, w) := rz_s1 fun _ => rfl
theorem g131_73 (c : rz_fR h a 11 7) : rg Z d rx_m131 73 L (.ref a :: S) (rz_mk h ι, w) = rg Z d rx_m131 76 L (rz_rv h a 7 :: S) (rz_mk h ι, w) := rz_gR rfl (by decide) c
theorem g131_76 (c : rz_fI h a 8 5) : rg Z d rx_m131 76 L (.ref a :: S) (rz_mk h ι, w) = rg Z d rx_m131 79 L (.int (ι a 5) :: S) (rz_mk h ι, w) := rz_gI rfl (by decide) c
theorem g131_79 : rg Z d rx_m131 79 L S (rz_mk h ι, w) = rg Z d rx_m131 81 L (.int 20 :: S) (rz_mk h ι, w) := rz_s1 fun _ => rfl
theorem g131_81 (c : rz_oc h a 5) : rg Z d rx_m131 81 L (v3 :: v2 :: v1 :: .ref a :: []) (rz_mk h ι, w) = rz_k true (rz_f Z d 52 [.ref a, v1, v2, v3] (rz_mk h ι, w)) (fun v σ' => rg Z d rx_m131 84 L (v.toList ++ []) σ') := rz_cv (pc := 81) (n := 3) (mi := 52) (S := v3 :: v2 :: v1 :: .ref a :: []) (rest := []) rfl rfl (Nat.le_of_ble_eq_true rfl) (Nat.le_of_ble_eq_true rfl) c
theorem g131_84 : rg Z d rx_m131 84 L [.int x] (rz_mk h ι, w) = some (.inl (some (.int x)), (rz_mk h ι, w)) := rz_reti rfl rfl rfl
theorem g131_85 : rg Z d rx_m131 85 [some (.ref a), l1, l2, l3] S (rz_mk h ι, w) = rg Z d rx_m131 86 [some (.ref a), l1, l2, l3] (.ref a :: S) (rz_mk h ι, w) := rz_s1 fun _ => rfl
theorem g131_86 (c : rz_fR h a 11 10) : rg Z d rx_m131 86 L (.ref a :: S) (rz_mk h ι, w) = rg Z d rx_m131 89 L (rz_rv h a 10 :: S) (rz_mk h ι, w) := rz_gR rfl (by decide) c
theorem g131_89 : rg Z d rx_m131 89 [some (.ref a), l1, l2, l3] S (rz_mk h ι, w) = rg Z d rx_m131 90 [some (.ref a), l1, l2, l3] (.ref a :: S) (rz_mk h ι, w) := rz_s1 fun _ => rfl
theorem g131_90 (c : rz_fR h a 11 7) : rg Z d rx_m131 90 L (.ref a :: S) (rz_mk h ι, w) = rg Z d rx_m131 93 L (rz_rv h a 7 :: S) (rz_mk h ι, w) := rz_gR rfl (by decide) c
theorem g131_93 : rg Z d rx_m131 93 [some (.ref a), l1, l2, l3] S (rz_mk h ι, w) = rg Z d rx_m131 94 [some (.ref a), l1, l2, l3] (.ref a :: S) (rz_mk h ι, w) := rz_s1 fun _ => rfl
theorem g131_94 (c : rz_fR h a 11 7) : rg Z d rx_m131 94 L (.ref a :: S) (rz_mk h ι, w) = rg Z d rx_m131 97 L (rz_rv h a 7 :: S) (rz_mk h ι, w) := rz_gR rfl (by decide) c
theorem g131_97 (c : rz_fI h a 8 5) : rg Z d rx_m131 97 L (.ref a :: S) (rz_mk h ι, w) = rg Z d rx_m131 100 L (.int (ι a 5) :: S) (rz_mk h ι, w) := rz_gI rfl (by decide) c
theorem g131_100 (c : rz_oc h a 5) : rg Z d rx_m131 100 L (v2 :: v1 :: .ref a :: []) (rz_mk h ι, w) = rz_k true (rz_f Z d 51 [.ref a, v1, v2] (rz_mk h ι, w)) (fun v σ' => rg Z d rx_m131 103 L (v.toList ++ []) σ') := rz_cv (pc := 100) (n := 2) (mi := 51) (S := v2 :: v1 :: .ref a :: []) (rest := []) rfl rfl (Nat.le_of_ble_eq_true rfl) (Nat.le_of_ble_eq_true rfl) c
theorem g131_103 : rg Z d rx_m131 103 [l0, l1, some (.int z), l3] (.int x :: S) (rz_mk h ι, w) = rg Z d rx_m131 104 [l0, l1, some (.int z), some (.int x)] S (rz_mk h ι, w) := rz_s1 fun _ => rfl
theorem g131_104 : rg Z d rx_m131 104 [l0, l1, some (.int x), l3] S (rz_mk h ι, w) = rg Z d rx_m131 105 [l0, l1, some (.int x), l3] (.int x :: S) (rz_mk h ι, w) := rz_s1 fun _ => rfl
theorem g131_105 : rg Z d rx_m131 105 L (.int x :: S) (rz_mk h ι, w) = if x = 0 then rg Z d rx_m131 108 L S (rz_mk h ι, w) else rg Z d rx_m131 110 L S (rz_mk h ι, w) := rz_if1 (pc := 105) (t := 110) (off := 5) (cc := .ne) (by decide) rfl
theorem g131_108 : rg Z d rx_m131 108 [l0, l1, l2, some (.int x)] S (rz_mk h ι, w) = rg Z d rx_m131 109 [l0, l1, l2, some (.int x)] (.int x :: S) (rz_mk h ι, w) := rz_s1 fun _ => rfl
theorem g131_109 : rg Z d rx_m131 109 L [.int x] (rz_mk h ι, w) = some (.inl (some (.int x)), (rz_mk h ι, w)) := rz_reti rfl rfl rfl
theorem g131_110 : rg Z d rx_m131 110 [l0, l1, l2, some (.int x)] S (rz_mk h ι, w) = rg Z d rx_m131 111 [l0, l1, l2, some (.int x)] (.int x :: S) (rz_mk h ι, w) := rz_s1 fun _ => rfl
theorem g131_111 : rg Z d rx_m131 111 L S (rz_mk h ι, w) = rg Z d rx_m131 112 L (.int (-1) :: S) (rz_mk h ι, w) := rz_s1 fun _ => rfl
theorem g131_112 : rg Z d rx_m131 112 L (.int y :: .int x :: S) (rz_mk h ι, w) = if x = y then rg Z d rx_m131 115 L S (rz_mk h ι, w) else rg Z d rx_m131 119 L S (rz_mk h ι, w) := rz_if2 (pc := 112) (t := 119) (off := 7) (cc := .ne) (by decide) rfl
theorem g131_115 : rg Z d rx_m131 115 L S (rz_mk h ι, w) = rg Z d rx_m131 116 L (.int 0 :: S) (rz_mk h ι, w) := rz_s1 fun _ => rfl
theorem g131_116 : rg Z d rx_m131 116 L S (rz_mk h ι, w) = rg Z d rx_m131 131 L S (rz_mk h ι, w) := rz_s1 fun _ => rfl
theorem g131_119 : rg Z d rx_m131 119 [some (.ref a), l1, l2, l3] S (rz_mk h ι, w) = rg Z d rx_m131 120 [some (.ref a), l1, l2, l3] (.ref a :: S) (rz_mk h ι, w) := rz_s1 fun _ => rfl
theorem g131_120 (c : rz_fR h a 11 10) : rg Z d rx_m131 120 L (.ref a :: S) (rz_mk h ι, w) = rg Z d rx_m131 123 L (rz_rv h a 10 :: S) (rz_mk h ι, w) := rz_gR rfl (by decide) c
theorem g131_123 : rg Z d rx_m131 123 [some (.ref a), l1, l2, l3] S (rz_mk h ι, w) = rg Z d rx_m131 124 [some (.ref a), l1, l2, l3] (.ref a :: S) (rz_mk h ι, w) := rz_s1 fun _ => rfl
theorem g131_124 (c : rz_fR h a 11 7) : rg Z d rx_m131 124 L (.ref a :: S) (rz_mk h ι, w) = rg Z d rx_m131 127 L (rz_rv h a 7 :: S) (rz_mk h ι, w) := rz_gR rfl (by decide) c
theorem g131_127 : rg Z d rx_m131 127 [l0, l1, l2, some (.int x)] S (rz_mk h ι, w) = rg Z d rx_m131 128 [l0, l1, l2, some (.int x)] (.int x :: S) (rz_mk h ι, w) := rz_s1 fun _ => rfl
theorem g131_128 (c : rz_oc h a 5) : rg Z d rx_m131 128 L (v2 :: v1 :: .ref a :: []) (rz_mk h ι, w) = rz_k true (rz_f Z d 49 [.ref a, v1, v2] (rz_mk h ι, w)) (fun v σ' => rg Z d rx_m131 131 L (v.toList ++ []) σ') := rz_cv (pc := 128) (n := 2) (mi := 49) (S := v2 :: v1 :: .ref a :: []) (rest := []) rfl rfl (Nat.le_of_ble_eq_true rfl) (Nat.le_of_ble_eq_true rfl) c
theorem g131_131 : rg Z d rx_m131 131 L [.int x] (rz_mk h ι, w) = some (.inl (some (.int x)), (rz_mk h ι, w)) := rz_reti rfl rfl rfl
theorem e131 : rz_f Z (d + 1) 131 [.ref t0, .int s1, .int s2] σ = rg Z d rx_m131 0 [some (.ref t0), some (.int s1), some (.int s2), none] [] σ := rz_f_eq rfl (Nat.le_of_ble_eq_true rfl)
end RZG
