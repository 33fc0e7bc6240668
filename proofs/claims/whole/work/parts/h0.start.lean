/-! THE LAW, from its entry -/
def XS0 : XS := ((0, -1), R00, ([], []), ([], []), (10, 0, 0, 0), fun _ => 0)
theorem okX_0 : okX 0 R00 [] [] [] [] := ⟨by decide, okR_0, Or.inl rfl, bkW_nil, by decide, fun x hx => (by cases hx), by decide, fun x hx => (by cases hx)⟩
theorem cx_0 {Z : rx_Z} {h h1 h3 : Nat → Option rx_E} {ι ι1 ι3 : Nat → Nat → Int32} {c b nx : Nat} (hz : Z.2.1 ≤ c) (hb : b = c + 41) (hnx : b + 476 ≤ nx) (n : nwC h h1 ι ι1 c) (hag : ∀ a, a < b → h3 a = h1 a ∧ ι3 a = ι1 a) (ho : olI Z h1 ι1) : CX Z h3 ι3 nx c b XS0 := by
  obtain ⟨n1, n2, n3, n4, n5, n6, n7, ⟨f1, f2, f3, f4, f5, f6, f7, f8, f9, f10⟩, n9, -⟩ := n
  have ec := (hag c (by omega)).2
  have ec1 := (hag (c + 1) (by omega)).2
  have ec2 := (hag (c + 2) (by omega)).2
  refine ⟨⟨hz, hb, hnx, ho.ag (fun a ha => hag a (by omega)), n1.ag (fun a _ _ _ a4 => (hag a (by omega)).1), okX_0, ⟨by rw [ec]; exact f1, by rw [ec]; exact f2, by rw [ec]; exact f3, by rw [ec]; exact f4, by rw [ec]; exact f5, by rw [ec1]; exact f6, by rw [ec1]; exact f7, fun q hq => by rw [(hag (c + 14) (by omega)).2]; exact f8 q hq, by rw [(hag (c + 13) (by omega)).2]; exact f9, fun x => by rw [ec2]; exact f10 x⟩, c + 33, c + 5, c + 37, .null, ⟨by rw [(hag c (by omega)).1]; exact n2.1, n2.2⟩, Or.inr ⟨rfl, rfl⟩, n3.ag (hag _ (by omega)).1, ?_, ⟨n5.ag (fun a a1 a2 => (hag a (by omega)).1), (rl_eq (hag _ (by omega)).2 (hag _ (by omega)).2 (hag _ (by omega)).2 (hag _ (by omega)).2).trans n6, Or.inl rfl, by omega⟩, rfl, ⟨fun _ => .null, by rw [(hag _ (by omega)).1]; exact n7, fun j hj => ⟨fun x hx => (by cases hx), fun _ => rfl⟩⟩⟩, by rw [ec2]; exact n9⟩
  show lwIs ι3 (c + 33) (efL [])
  rw [show efL [] = usL from if_pos rfl]
  exact ⟨by rw [(hag _ (by omega)).2]; exact n4.1, fun q hq => by rw [(hag _ (by omega)).2]; exact n4.2.1 q hq, n4.2.2⟩
theorem mx_0 {Z : rx_Z} {h2 h3 : Nat → Option rx_E} {ι2 ι3 : Nat → Nat → Int32} {b : Nat} (i : MI Z h2 ι2 b 0 (-1) R00 [] [] [] [] 10 0 0 0) (e1 : ι2 (b + 1) = (fun _ => 0)) (hag : ∀ a, a ≠ b + 475 → h3 a = h2 a ∧ ι3 a = ι2 a) : MX Z h3 ι3 b XS0 := by
  refine ⟨i.keep (fun a a1 a2 => (hag a (by omega)).1) ?_ (fun a ha => (hag a (by omega)).2) (fun q _ => by rw [(hag _ (by omega)).2]) (fun k _ => by rw [(hag b (by omega)).2]), by rw [(hag _ (by omega)).2]; exact e1⟩
  obtain ⟨f, hf⟩ := i.2.2.1
  exact ⟨f, ((hag _ (by omega)).1).trans hf⟩
set_option maxHeartbeats 4000000 in
theorem whole_start {p : Program} {e : Env} {s : State} {m : MethodId} {below : List Frame} {meth : Method} {c : Code} (l : Launch) (hflags : l.flags = flags0) (hheap : heapFits s = true) {b L : Nat} {xs : Nat → Int32} (hL : L ≤ 4608) (C0 : lw_At p s m meth c b L xs) : W p l e room_1 s m #[Value.ref b] below meth c s.heap [] 0 0 (lw_Z below #[Value.ref b] s) (entryFrame m ([Value.ref b] : List Value).toArray 8) := by
  obtain ⟨hx, hb, hr, hml, hown, hts0, hXs, hbl, hlocks, hgv⟩ := id C0
  have hl9 : l.stackTraces = false := by
    unfold Launch.stackTraces
    rw [hflags]
    decide
  have hts : ∀ w ∈ rx_tbl, w.before #[Value.ref b] s = true := fun w hw => hts0 w (rx_tbl_in hw)
  have hN : ∀ w ∈ fsN, w.before #[Value.ref b] s = true := flat_of_before _ hgv
  have hA : ∀ a : Nat, a < s.heap.size → ¬ (fun q => s.heap.size ≤ q) a := fun a h => Nat.not_le.mpr h
  have hk : ∀ k : Nat, ∃ q : ClassId × (Nat → Nat), ∀ x : vw_C, vwCl[k]? = some x → u_Kn s x.1 x.2.1 x.2.2 q.1 q.2 := by
    intro k
    match k with
    | 0 => exact (fun ⟨cC, iS, h⟩ => ⟨(cC, iS), fun x hx => by cases hx; exact h⟩) (u_known (C := RX0) (T := TX0) (N := 3) (n := 3) hts rx_c0.2 (hts _ rx_w165))
    | 1 => exact (fun ⟨cC, iS, h⟩ => ⟨(cC, iS), fun x hx => by cases hx; exact h⟩) (u_known (C := RX1) (T := TX1) (N := 1) (n := 1) hts rx_c1.2 (hts _ rx_w293))
    | 2 => exact (fun ⟨cC, iS, h⟩ => ⟨(cC, iS), fun x hx => by cases hx; exact h⟩) (u_known (C := RX2) (T := TX2) (N := 6) (n := 6) hts rx_c2.2 (hts _ rx_w186))
    | 3 => exact (fun ⟨cC, iS, h⟩ => ⟨(cC, iS), fun x hx => by cases hx; exact h⟩) (u_known (C := RX3) (T := TX3) (N := 4) (n := 4) hts rx_c3.2 (hts _ rx_w68))
    | 4 => exact (fun ⟨cC, iS, h⟩ => ⟨(cC, iS), fun x hx => by cases hx; exact h⟩) (u_known (C := RX4) (T := TX4) (N := 6) (n := 6) hts rx_c4.2 (hts _ rx_w213))
    | 5 => exact (fun ⟨cC, iS, h⟩ => ⟨(cC, iS), fun x hx => by cases hx; exact h⟩) (u_known (C := RX5) (T := TX5) (N := 4) (n := 4) hts rx_c5.2 (hts _ rx_w94))
    | 6 => exact (fun ⟨cC, iS, h⟩ => ⟨(cC, iS), fun x hx => by cases hx; exact h⟩) (u_known (C := RX6) (T := TX6) (N := 2) (n := 2) hts rx_c6.2 (hts _ rx_w88))
    | 7 => exact (fun ⟨cC, iS, h⟩ => ⟨(cC, iS), fun x hx => by cases hx; exact h⟩) (u_known (C := RX7) (T := TX7) (N := 3) (n := 3) hts rx_c7.2 (hts _ rx_w460))
    | 8 => exact (fun ⟨cC, iS, h⟩ => ⟨(cC, iS), fun x hx => by cases hx; exact h⟩) (u_known (C := RX8) (T := TX8) (N := 9) (n := 9) hts rx_c8.2 (hts _ rx_w242))
    | 9 => exact (fun ⟨cC, iS, h⟩ => ⟨(cC, iS), fun x hx => by cases hx; exact h⟩) (u_known (C := RX9) (T := TX9) (N := 7) (n := 7) hts rx_c9.2 (hts _ rx_w37))
    | 10 => exact (fun ⟨cC, iS, h⟩ => ⟨(cC, iS), fun x hx => by cases hx; exact h⟩) (u_known (C := RX10) (T := TX10) (N := 9) (n := 9) hts rx_c10.2 (hts _ rx_w129))
    | 11 => exact (fun ⟨cC, iS, h⟩ => ⟨(cC, iS), fun x hx => by cases hx; exact h⟩) (u_known (C := RX11) (T := TX11) (N := 18) (n := 18) hts rx_c11.2 (hts _ rl_w29))
    | 12 => exact (fun ⟨cC, iS, h⟩ => ⟨(cC, iS), fun x hx => by cases hx; exact h⟩) (u_known (C := RX12) (T := TX12) (N := 45) (n := 45) hts rx_c12.2 (hts _ rl_w1341))
    | k + 13 => exact ⟨(0, fun _ => 0), fun x hx => by simp [vwCl] at hx⟩
  obtain ⟨D, hD⟩ := Classical.skolem.mp hk
  obtain ⟨f, hf⟩ := Classical.skolem.mp (fs_str hN hA)
  obtain ⟨u, hu1, hu2⟩ := fs_us hN hA
  obtain ⟨fl, ft, hft⟩ : ∃ fl t : Nat, va_Z "jdk/internal/util/Preconditions" "SIOOBE_FORMATTER" "Ljava/util/function/BiFunction;" (if fl = 0 then .null else .ref t) (fun q => s.heap.size ≤ q) s s.heap := by
    rcases va_Zqof (hts0 _ fs_c1.2.2.2.2.1) (hts0 _ fs_c1.2.2.2.2.2.1) (hN _ fs_7.2.2.2.1) hA with h | ⟨t, h⟩
    · exact ⟨0, 0, h⟩
    · exact ⟨1, t, h⟩
  obtain ⟨Z, hZ⟩ : ∃ y : rx_Z, y = ((fun k => (D k).1, fun k => (D k).2), s.heap.size, s.heap, fun n => if n = 0 then u else if n ≤ 20 then (f (n - 1)).1 else if n = 40 then fl else ft) := ⟨_, rfl⟩
  have z1 : Z.2.1 = s.heap.size := by rw [hZ]
  have z2 : Z.2.2.1 = s.heap := by rw [hZ]
  have z0 : Z.2.2.2 0 = u := by rw [hZ]; rfl
  have zS : ∀ k, k < 20 → Z.2.2.2 (k + 1) = (f k).1 := fun k hk9 => by
    rw [hZ]
    show (if k + 1 = 0 then u else if k + 1 ≤ 20 then (f (k + 1 - 1)).1 else if k + 1 = 40 then fl else ft) = (f k).1
    rw [if_neg (by omega), if_pos (by omega)]
    rfl
  have z40 : Z.2.2.2 40 = fl := by rw [hZ]; rfl
  have z41 : Z.2.2.2 41 = ft := by rw [hZ]; rfl
  have zK : va_K Z.1 vwCl [] s := by
    rw [hZ]
    exact ⟨fun k q hq => hD k q hq, fun k q h => by simp at h⟩
  have hX : rx_X Z s := by
    refine ⟨fun q hq => hts0 _ (fs_b7 q hq), ⟨va_AO.of (hts0 _ fs_b8.1), va_AOA.of (hts0 _ fs_b8.2)⟩, ?_, ?_, ?_, ?_, ?_, ?_, ?_⟩
    · exact rx_cons (hts0 _ (fs_b9 _ (List.mem_of_getElem? (i := 0) rfl))) (rx_cons (hts0 _ (fs_b9 _ (List.mem_of_getElem? (i := 1) rfl))) (rx_cons (hts0 _ (fs_b9 _ (List.mem_of_getElem? (i := 2) rfl))) (rx_cons (hts0 _ (fs_b9 _ (List.mem_of_getElem? (i := 3) rfl))) (rx_cons (hts0 _ (fs_b9 _ (List.mem_of_getElem? (i := 4) rfl))) rx_nil))))
    · intro q hq
      obtain ⟨k, hk9⟩ := List.mem_iff_getElem?.mp hq
      have k20 : k < 20 := (List.getElem?_eq_some_iff.mp hk9).1
      have eq : rx_SL.getD k ("", 0, "", 0) = q := by rw [List.getD_eq_getElem?_getD, hk9]; rfl
      have e5 := fs_b5 k k20
      rw [eq] at e5
      have e6 := fs_b6 k k20
      rw [eq] at e6
      have e7 := (hf k k20).1
      unfold tmS at e7
      rw [eq] at e7
      rw [e5, Nat.add_comm, zS k k20]
      exact vk_R.of (hts0 _ e6) e7
    · rw [z0, z1, z2]
      exact va_Zref (hts0 _ fs_c1.1) (hts0 _ fs_c1.2.1) hu1 hA
    · rw [z1, z2]
      exact va_Zof (hts0 _ fs_c1.2.2.1) (hts0 _ fs_c1.2.2.2.1) (va_eqt (hN _ fs_7.2.2.1)) hA
    · rw [z40, z41, z1, z2]
      exact hft
    · rw [z1, z2]
      exact vx_Zqof (hts0 _ fs_c1.2.2.2.2.2.2.1) (hts0 _ fs_c1.2.2.2.2.2.2.2.2) (hN _ fs_7.1) hA
    · rw [z1, z2]
      exact vx_Zqof (hts0 _ fs_c1.2.2.2.2.2.2.2.1) (hts0 _ fs_c1.2.2.2.2.2.2.2.2) (hN _ fs_7.2.1) hA
  have hbs : Z.2.1 = Z.2.2.1.size := by rw [z1, z2]
  have C : LW p l s m #[Value.ref b] c b L xs Z := ⟨hx, hb, hml, hown, hts, hXs, hbl, hL, hl9, z1, z2, hbs, zK, hX, va_Nc.of (hN _ fs_7.2.2.2.2)⟩
  obtain ⟨hH0, ho0⟩ := fs_all (Z := Z) (A := fun q => s.heap.size ≤ q) (S := fun k => (f k).1) (V := fun k => (f k).2) hheap z1 z2 (by rw [z1]) hu2 (fun k hk9 => (hf k hk9).2) z0 zS
  have hl := lv_entry ([.ref b]) (n := 8) (Nat.le_of_ble_eq_true rfl)
  rw [lg_entry_eq]
  generalize (lg_sl ([.ref b]) ++ List.replicate (8 - (lg_sl ([.ref b])).length) Slot.unset).toArray = ls at hl ⊢
  have hl : lv_has ls 8 [(0, .ref b)] := hl
  obtain ⟨cB, hcB⟩ : ∃ y, y = s.heap.size := ⟨_, rfl⟩
  rw [← hcB] at hH0
  have zc : Z.2.1 ≤ cB := by omega
  have hCF : CallFix p m c cL_law_ 8 s #[Value.ref b] rx_tbl "FarthestHeirLaw" := ⟨hx, hb, hml, hown, hts⟩
  -- the class's object
  refine rx_new_ok (L := []) (N := 18) (ci := 11) (dfs := rx_df 11) hx hb hts hown zK hH0 ⟨_, _, tyX11, rx_c11, tyX11_ok, rl_w28, rl_w29, rx_w1, by decide +kernel⟩ dl_law__0 rfl (by decide) (by decide) ?_
  intro S' σ' H1 e1 e2 hH1
  cases e1
  have hH1 : rx_H Z s (rx_up (rz_mk (fsH u (fun k => (f k).1) (fun k => (f k).2)) (fsI u)) cB (.inr (11, rx_df 11)), cB + 1, 0 + 18) H1 := hH1
  rw [rz_mk_new rfl] at hH1
  generalize hg0 : fsH u (fun k => (f k).1) (fun k => (f k).2) = g0 at hH1 ho0
  obtain ⟨h1, ι1, r1, nc⟩ := nw_heir (Z := Z) (d := 36) (h := rx_up g0 cB (.inr (11, rx_df 11))) (ι := rz_z (fsI u) cB) (c := cB) (s := 0 + 18) zc (rx_up_self _ _ _) (ho0.ag (fun x hx9 => ⟨up_ne (by omega), zz_ne (by omega)⟩))
  have frc := nc.2.2.2.2.2.2.2.2.2
  have ho1 : olI Z h1 ι1 := ho0.ag (fun x hx9 => ⟨(frc x (by omega)).1.trans (up_ne (by omega)), (frc x (by omega)).2.trans (zz_ne (by omega))⟩)
  refine lv_dup hx hb dl_law__3 rfl ?_
  refine lw_init (d := 40) (As := []) (mi := 119) (n := 0) hl9 hbs hCF zK hX (show rx_ML[119]? = some rx_m119 from rfl) rfl rfl ⟨rl_w30, rl_w31⟩ rx_p119 rfl (Nat.le_of_ble_eq_true rfl) r1 hH1 hl.1 dl_law__4 ⟨by decide, by decide⟩ ⟨?_, ?_⟩ ?_
  · show 0 + 1 + (cB + 41 - (cB + 1) + 0) ≤ 601024
    omega
  · show 0 + 18 + (0 + 18 + 4587 - (0 + 18) + 0) ≤ 7293034
    omega
  intro H2 locs2 hH2 hlo2
  refine W.widen (k := 41) (n := 4605) (by show 0 + 1 + (cB + 41 - (cB + 1) + 0) ≤ 41; omega) (by show 0 + 18 + (0 + 18 + 4587 - (0 + 18) + 0) ≤ 4605; omega) ?_
  refine lv_astore_n (lv' := [(1, .ref cB), (0, .ref b)]) hx hb dl_law__7 rfl hl (by decide) rfl (fun ls1 hl1 => ?_)
  -- the reference's object
  refine rx_new_ok (L := []) (N := 45) (ci := 12) (dfs := rx_df 12) hx hb hts hown zK hH2 ⟨_, _, tyX12, rx_c12, tyX12_ok, rl_w1340, rl_w1341, rx_w13, by decide +kernel⟩ dl_law__8 rfl (by decide) (by decide) ?_
  intro S' σ' H3 e1 e2 hH3
  cases e1
  have hH3 : rx_H Z s (rx_up (rz_mk h1 ι1) (cB + 41) (.inr (12, rx_df 12)), cB + 41 + 1, 0 + 18 + 4587 + 45) H3 := hH3
  rw [rz_mk_new rfl] at hH3
  obtain ⟨h2, ι2, r2, hMI, e9, frm⟩ := nw_model (Z := Z) (d := 37) (h := rx_up h1 (cB + 41) (.inr (12, rx_df 12))) (ι := rz_z ι1 (cB + 41)) (b := cB + 41) (s := 0 + 18 + 4587 + 45) (by omega) (rx_up_self _ _ _) zz_s
  refine lv_dup hx hb dl_law__11 rfl ?_
  refine lw_init (d := 40) (As := []) (mi := 171) (n := 0) hl9 hbs hCF zK hX (show rx_ML[171]? = some rx_m171 from rfl) rfl rfl ⟨rl_w1342, rl_w1343⟩ rx_p171 rfl (Nat.le_of_ble_eq_true rfl) r2 hH3 hl1.1 dl_law__12 ⟨by decide, by decide⟩ ⟨?_, ?_⟩ ?_
  · show 41 + 1 + (cB + 41 + 475 - (cB + 41 + 1) + 0) ≤ 601024
    omega
  · show 4605 + 45 + (0 + 18 + 4587 + 45 + 6774 - (0 + 18 + 4587 + 45) + 0) ≤ 7293034
    omega
  intro H4 locs4 hH4 hlo4
  refine W.widen (k := 516) (n := 11424) (by show 41 + 1 + (cB + 41 + 475 - (cB + 41 + 1) + 0) ≤ 516; omega) (by show 4605 + 45 + (0 + 18 + 4587 + 45 + 6774 - (0 + 18 + 4587 + 45) + 0) ≤ 11424; omega) ?_
  refine lv_astore_n (lv' := [(2, .ref (cB + 41)), (1, .ref cB), (0, .ref b)]) hx hb dl_law__15 rfl hl1 (by decide) rfl (fun ls2 hl2 => ?_)
  -- the row that answers lie in
  refine lv_iconst (v := 1) hx hb dl_law__16 (by decide) ?_
  refine rx_newa_ok (L := []) (x := (17 + 2, [], [.ref (cB + 41 + 475)], (rx_up (rz_mk h2 ι2) (cB + 41 + 475) (.inl (1, 1, fun _ => rx_dv 1)), cB + 41 + 475 + 1, 0 + 18 + 4587 + 45 + 6774 + 1))) hx hb hH4 (Or.inr ⟨rfl, rfl⟩) (hts _ (rx_mem7 55 (by decide +kernel) (by decide +kernel))) dl_law__17 ?_ (fun N hN => ?_) ?_
  · unfold rx_newa
    dsimp only
    rw [if_pos ⟨by decide, by decide⟩]
    rfl
  · have : 0 + 18 + 4587 + 45 + 6774 + 1 = 0 + 18 + 4587 + 45 + 6774 + N := hN
    exact ⟨by decide, by show 11424 + N ≤ 7293034; omega⟩
  intro N S' σ' H5 e1 e2 hH5
  cases e1
  have hN : N = 1 := by
    have := congrArg Prod.snd e2
    have : 0 + 18 + 4587 + 45 + 6774 + 1 = 0 + 18 + 4587 + 45 + 6774 + N := this
    omega
  subst hN
  have hH5 : rx_H Z s (rx_up (rz_mk h2 ι2) (cB + 41 + 475) (.inl (1, 1, fun _ => .long 0)), cB + 41 + 475 + 1, 0 + 18 + 4587 + 45 + 6774 + 1) H5 := hH5
  rw [rz_mk_new rfl] at hH5
  refine lv_astore_n (lv' := [(3, .ref (cB + 41 + 475)), (2, .ref (cB + 41)), (1, .ref cB), (0, .ref b)]) hx hb dl_law__19 rfl hl2 (by decide) rfl (fun ls3 hl3 => ?_)
  refine lv_iconst (v := 0) hx hb dl_law__20 (by decide) ?_
  refine lv_istore (lv' := [(4, .int 0), (3, .ref (cB + 41 + 475)), (2, .ref (cB + 41)), (1, .ref cB), (0, .ref b)]) hx hb dl_law__21 hl3 (by decide) rfl (fun ls4 hl4 => ?_)
  refine law_loop (cB := cB) (bB := cB + 41) C hr hlocks 513 0 XS0 H5 _ (516 + 1) (11424 + 1) ls4 (Nat.zero_le _) (by omega) (by decide) (by decide) ?_ (lv_sub hl4 [4, 3, 2, 1, 0] rfl)
  have a2 : ∀ a, a < cB + 41 → h2 a = h1 a ∧ ι2 a = ι1 a := fun a ha => ⟨(frm a (by omega)).1.trans (up_ne (by omega)), (frm a (by omega)).2.trans (zz_ne (by omega))⟩
  refine ⟨_, _, _, cB + 41 + 476, hH5, ?_, cx_0 zc rfl (Nat.le_refl _) nc (fun a ha => ⟨(up_ne (by omega)).trans (a2 a ha).1, (zz_ne (by omega)).trans (a2 a ha).2⟩) ho1, mx_0 hMI e9 (fun a ha => ⟨up_ne ha, zz_ne ha⟩), ⟨_, rx_up_self _ _ _⟩, ?_⟩
  · show cB + 41 + 476 ≤ cB + 41 + 475 + 1
    omega
  · exact app_lo (app_lo (fun q hq => nomatch hq) hlo2) hlo4
