/-! the law's loop -/
theorem and63 (x : Int32) : ∃ k, k < 64 ∧ x &&& 63 = nI k := by
  refine ⟨(x.toBitVec &&& 63#32).toNat, ?_, ?_⟩
  · rw [BitVec.toNat_and]
    exact Nat.lt_of_le_of_lt Nat.and_le_right (by decide)
  · apply Int32.toBitVec_inj.mp
    show x.toBitVec &&& 63#32 = BitVec.ofNat 32 (x.toBitVec &&& 63#32).toNat
    simp
theorem lw_low : ∀ L, L < 9 → ∀ i, i < 9 → Int32.ofNat L - 9 < nI i := by decide
theorem lw_cmp {i L : Nat} (hi : i ≤ L) (hL : L ≤ 4608) : Int32.ofNat L - 9 < nI i ↔ ¬ i + 9 ≤ L := by
  by_cases h9 : L < 9
  · exact ⟨fun _ => by omega, fun _ => lw_low L h9 i (by omega)⟩
  · have e : Int32.ofNat L - 9 = nI (L - 9) := by
      have h1 : nI (L - 9) + nI 9 = nI L := by rw [nI_add]; congr 1; omega
      show nI L - nI 9 = _
      rw [← h1, Int32.add_sub_cancel]
    rw [e, nI_lt2 (by omega) (by omega)]
    omega
theorem LI.ok {Z : rx_Z} {s : State} {cB bB : Nat} {H : Heap} {locs : List Loc} {X : XS} (hI : LI Z s cB bB H locs X) : okS X ∧ ∃ (h : Nat → Option rx_E) (ι : Nat → Nat → Int32), MX Z h ι bB X := by
  obtain ⟨h, ι, w, nx, -, -, i, j, -⟩ := hI
  exact ⟨okS.of i, h, ι, j⟩
theorem law_loop {p : Program} {l : Launch} {e : Env} {s : State} {m : MethodId} {below : List Frame} {meth : Method} {c : Code} {sb L : Nat} {xs : Nat → Int32} {Z : rx_Z} {cB bB : Nat} (C : LW p l s m #[Value.ref sb] c sb L xs Z) (hr : meth.sig.returnType = ret) (hlocks : meth.locks = false) : ∀ (n i : Nat) (X : XS) (H : Heap) (locs : List Loc) (cells slots : Nat) (ls : Array Slot), i ≤ L → L < i + 9 * n → cells + 6 * n ≤ 601024 → slots + 74 * n ≤ 7293034 → LI Z s cB bB H locs X → lv_has ls 8 [(0, .ref sb), (1, .ref cB), (2, .ref bB), (3, .ref (bB + 475)), (4, .int (nI i))] → W p l e room_1 s m #[Value.ref sb] below meth c H locs cells slots (lw_Z below #[Value.ref sb] s) (F0 m 23 ls []) := by
  intro n
  induction n with
  | zero =>
    intro i X H locs cells slots ls h1 h2
    omega
  | succ n ih =>
    intro i X H locs cells slots ls h1 h2 hc hs hI hl
    obtain ⟨hx, hb, hml, hown, hts, hXs, hbl, hLL, hl9, hz1, hz2, hbs, hK, hX⟩ := id C
    have hS := hI.S hz1 hz2
    refine lv_iload hx hb dl_law__23 (lv_at hl 4 rfl) ?_
    refine lv_aload_n hx hb dl_law__25 rfl (lv_at hl 0 rfl) ?_
    refine va_slen hx hb hXs hbl (Nat.not_le.mpr hbl) hS dl_law__26 ?_
    refine lv_bipush (v := 9) hx hb dl_law__27 (by decide) ?_
    refine lv_isub hx hb dl_law__29 ?_
    refine lv_icmp_gt (tgt := 2629) hx hb dl_law__30 (by decide) (fun hq => ?_) (fun hq => ?_)
    · refine lv_iconst (v := 1) hx hb dl_law__2629 (by decide) ?_
      refine va_forget (fun q hq => hS.2.2 q hq) ?_
      refine W.widen (k := 601024) (n := 7293034) (by omega) (by omega) ?_
      exact lw_ret hx hb hr hlocks dl_law__2630
    · have hi : i + 9 ≤ L := by
        by_cases h9 : i + 9 ≤ L
        · exact h9
        · exact absurd ((lw_cmp h1 hLL).mpr h9) hq
      have kk : ∀ (H' : Heap) (locs' : List Loc) (ls' : Array Slot) (X' : XS), LI Z s cB bB H' locs' X' → lv_has ls' 8 [(0, .ref sb), (1, .ref cB), (2, .ref bB), (3, .ref (bB + 475)), (4, .int (nI i))] → W p l e room_1 s m #[Value.ref sb] below meth c H' locs' (cells + 6) (slots + 74) (lw_Z below #[Value.ref sb] s) (F0 m 2623 ls' []) := by
        intro H' locs' ls' X' hI' hl'
        refine lv_iinc (v := nI (i + 9)) (lv' := [(4, .int (nI (i + 9))), (0, .ref sb), (1, .ref cB), (2, .ref bB), (3, .ref (bB + 475))]) hx hb dl_law__2623 hl' (k := 4) rfl (nI_add i 9) (by decide) rfl (fun ls2 hl2 => ?_)
        refine lv_goto (tgt := 23) hx hb dl_law__2626 (by decide) ?_
        exact ih (i + 9) X' H' locs' (cells + 6) (slots + 74) ls2 hi (by omega) (by omega) (by omega) hI' (lv_sub hl2 [1, 2, 3, 4, 0] rfl)
      have hrm : cells + 6 ≤ 601024 ∧ slots + 74 ≤ 7293034 := ⟨by omega, by omega⟩
      obtain ⟨hok, h0, ι0, hMX⟩ := hI.ok
      refine lv_aload_n hx hb dl_law__33 rfl (lv_at hl 0 rfl) ?_
      refine lv_iload hx hb dl_law__34 (lv_at hl 4 rfl) ?_
      refine va_sld hx hb hXs hbl (Nat.not_le.mpr hbl) hS (nI_in (show i < L by omega) (by omega)) dl_law__36 ?_
      refine lv_bipush (v := 63) hx hb dl_law__37 (by decide) ?_
      refine lv_iand hx hb dl_law__39 ?_
      obtain ⟨k, k64, ek⟩ := and63 (xs (nI i).toNatClampNeg)
      rw [ek]
      rcases (show k = 0 ∨ k = 1 ∨ k = 2 ∨ k = 3 ∨ k = 4 ∨ k = 5 ∨ k = 6 ∨ k = 7 ∨ k = 8 ∨ k = 9 ∨ k = 10 ∨ k = 11 ∨ k = 12 ∨ k = 13 ∨ k = 14 ∨ k = 15 ∨ k = 16 ∨ k = 17 ∨ k = 18 ∨ k = 19 ∨ k = 20 ∨ k = 21 ∨ k = 22 ∨ k = 23 ∨ k = 24 ∨ k = 25 ∨ k = 26 ∨ k = 27 ∨ k = 28 ∨ k = 29 ∨ k = 30 ∨ k = 31 ∨ k = 32 ∨ k = 33 ∨ k = 34 ∨ k = 35 ∨ k = 36 ∨ k = 37 ∨ k = 38 ∨ k = 39 ∨ k = 40 ∨ k = 41 ∨ k = 42 ∨ k = 43 ∨ k = 44 ∨ k = 45 ∨ k = 46 ∨ k = 47 ∨ k = 48 ∨ k = 49 ∨ k = 50 ∨ k = 51 ∨ k = 52 ∨ k = 53 ∨ k = 54 ∨ k = 55 ∨ k = 56 ∨ k = 57 ∨ k = 58 ∨ k = 59 ∨ k = 60 ∨ k = 61 ∨ k = 62 ∨ k = 63 by omega) with rfl | rfl | rfl | rfl | rfl | rfl | rfl | rfl | rfl | rfl | rfl | rfl | rfl | rfl | rfl | rfl | rfl | rfl | rfl | rfl | rfl | rfl | rfl | rfl | rfl | rfl | rfl | rfl | rfl | rfl | rfl | rfl | rfl | rfl | rfl | rfl | rfl | rfl | rfl | rfl | rfl | rfl | rfl | rfl | rfl | rfl | rfl | rfl | rfl | rfl | rfl | rfl | rfl | rfl | rfl | rfl | rfl | rfl | rfl | rfl | rfl | rfl | rfl | rfl
      · refine lv_tableIn (tgt := 220) hx hb dl_law__40 (by decide) (by decide) rfl (by decide) ?_
        exact lc_feed C hi hI hl hrm kk ((j_feed (xs (i + 1)) (xs (i + 2)) (xs (i + 3)) (xs (i + 4)) (xs (i + 5))).jj (by decide))
      · refine lv_tableIn (tgt := 293) hx hb dl_law__40 (by decide) (by decide) rfl (by decide) ?_
        exact lc_dukedom C hi hI hl hrm kk ((j_dukedom hok (xs (i + 1))).jj (by decide))
      · refine lv_tableIn (tgt := 349) hx hb dl_law__40 (by decide) (by decide) rfl (by decide) ?_
        exact lc_law C hi hI hl hrm kk ((j_law hok (xs (i + 1))).jj (by decide))
      · refine lv_tableIn (tgt := 405) hx hb dl_law__40 (by decide) (by decide) rfl (by decide) ?_
        exact lc_work C hi hI hl hrm kk ((j_work hok hMX (xs (i + 1))).jj (by decide))
      · refine lv_tableIn (tgt := 461) hx hb dl_law__40 (by decide) (by decide) rfl (by decide) ?_
        exact lc_book C hi hI hl hrm kk ((j_book hok (xs (i + 1))).jj (by decide))
      · refine lv_tableIn (tgt := 517) hx hb dl_law__40 (by decide) (by decide) rfl (by decide) ?_
        exact lc_fault C hi hI hl hrm kk ((j_fault ).jj (by decide))
      · refine lv_tableIn (tgt := 530) hx hb dl_law__40 (by decide) (by decide) rfl (by decide) ?_
        exact lc_undo C hi hI hl hrm kk ((j_undo ).jj (by decide))
      · refine lv_tableIn (tgt := 543) hx hb dl_law__40 (by decide) (by decide) rfl (by decide) ?_
        exact lc_told C hi hI hl hrm kk ((j_told hok (xs (i + 1))).jj (by decide))
      · refine lv_tableIn (tgt := 599) hx hb dl_law__40 (by decide) (by decide) rfl (by decide) ?_
        exact lc_person C hi hI hl hrm kk ((j_person hok (xs (i + 1)) (xs (i + 2))).jj)
      · refine lv_tableIn (tgt := 667) hx hb dl_law__40 (by decide) (by decide) rfl (by decide) ?_
        exact lc_far C hi hI hl hrm kk ((j_far hok (xs (i + 1)) (xs (i + 2))).jj (by decide))
      · refine lv_tableIn (tgt := 735) hx hb dl_law__40 (by decide) (by decide) rfl (by decide) ?_
        exact lc_would C hi hI hl hrm kk ((j_would hok (xs (i + 1)) (xs (i + 2)) (xs (i + 3)) (xs (i + 4)) (xs (i + 5)) (xs (i + 6)) (xs (i + 7)) (xs (i + 8))).jj (by decide))
      · refine lv_tableIn (tgt := 881) hx hb dl_law__40 (by decide) (by decide) rfl (by decide) ?_
        exact lc_ahead C hi hI hl hrm kk ((j_ahead hok (xs (i + 1)) (xs (i + 2))).jj (by decide))
      · refine lv_tableIn (tgt := 949) hx hb dl_law__40 (by decide) (by decide) rfl (by decide) ?_
        exact lc_after C hi hI hl hrm kk ((j_after hok (xs (i + 1))).jj (by decide))
      · refine lv_tableIn (tgt := 1005) hx hb dl_law__40 (by decide) (by decide) rfl (by decide) ?_
        exact lc_feint C hi hI hl hrm kk ((j_feint hok (xs (i + 1)) (xs (i + 2))).jj)
      · refine lv_tableIn (tgt := 1073) hx hb dl_law__40 (by decide) (by decide) rfl (by decide) ?_
        exact lc_ring C hi hI hl hrm kk ((j_ring hok (xs (i + 1)) (xs (i + 2))).jj)
      · refine lv_tableIn (tgt := 1141) hx hb dl_law__40 (by decide) (by decide) rfl (by decide) ?_
        exact lc_like C hi hI hl hrm kk ((j_like hok (xs (i + 1))).jj (by decide))
      · refine lv_tableIn (tgt := 1197) hx hb dl_law__40 (by decide) (by decide) rfl (by decide) ?_
        exact lc_ask C hi hI hl hrm kk ((j_ask hok (xs (i + 1))).jj (by decide))
      · refine lv_tableIn (tgt := 1253) hx hb dl_law__40 (by decide) (by decide) rfl (by decide) ?_
        exact lc_pairs C hi hI hl hrm kk ((j_pairs hok ).jj (by decide))
      · refine lv_tableIn (tgt := 1266) hx hb dl_law__40 (by decide) (by decide) rfl (by decide) ?_
        exact lc_mate C hi hI hl hrm kk ((j_mate hok (xs (i + 1))).jj (by decide))
      · refine lv_tableIn (tgt := 1322) hx hb dl_law__40 (by decide) (by decide) rfl (by decide) ?_
        exact lc_row C hi hI hl hrm kk ((j_row hok (xs (i + 1))).jj (by decide))
      · refine lv_tableIn (tgt := 1378) hx hb dl_law__40 (by decide) (by decide) rfl (by decide) ?_
        exact lc_rowed C hi hI hl hrm kk ((j_rowed hok (xs (i + 1)) (xs (i + 2))).jj (by decide))
      · refine lv_tableIn (tgt := 1446) hx hb dl_law__40 (by decide) (by decide) rfl (by decide) ?_
        exact lc_child C hi hI hl hrm kk ((j_child hok (xs (i + 1))).jj (by decide))
      · refine lv_tableIn (tgt := 1502) hx hb dl_law__40 (by decide) (by decide) rfl (by decide) ?_
        exact lc_middling C hi hI hl hrm kk ((j_middling hok (xs (i + 1))).jj (by decide))
      · refine lv_tableIn (tgt := 1558) hx hb dl_law__40 (by decide) (by decide) rfl (by decide) ?_
        exact lc_chance C hi hI hl hrm kk ((j_chance hok (xs (i + 1)) (xs (i + 2)) (xs (i + 3)) (xs (i + 4))).jj (by decide))
      · refine lv_tableIn (tgt := 1649) hx hb dl_law__40 (by decide) (by decide) rfl (by decide) ?_
        exact lc_feigning C hi hI hl hrm kk ((j_feigning hok (xs (i + 1)) (xs (i + 2)) (xs (i + 3))).jj (by decide))
      · refine lv_tableIn (tgt := 1729) hx hb dl_law__40 (by decide) (by decide) rfl (by decide) ?_
        exact lc_land C hi hI hl hrm kk ((j_land hok (xs (i + 1)) (xs (i + 2)) (xs (i + 3))).jj)
      · refine lv_tableIn (tgt := 1809) hx hb dl_law__40 (by decide) (by decide) rfl (by decide) ?_
        exact lc_oldest C hi hI hl hrm kk ((j_oldest hok (xs (i + 1))).jj (by decide))
      · refine lv_tableIn (tgt := 1865) hx hb dl_law__40 (by decide) (by decide) rfl (by decide) ?_
        exact lc_alike C hi hI hl hrm kk ((j_alike hok (xs (i + 1))).jj (by decide))
      · refine lv_tableIn (tgt := 1921) hx hb dl_law__40 (by decide) (by decide) rfl (by decide) ?_
        exact lc_beyond C hi hI hl hrm kk ((j_beyond hok (xs (i + 1)) (xs (i + 2))).jj)
      · refine lv_tableIn (tgt := 1989) hx hb dl_law__40 (by decide) (by decide) rfl (by decide) ?_
        exact lc_nearest C hi hI hl hrm kk ((j_nearest hok (xs (i + 1))).jj (by decide))
      · refine lv_tableIn (tgt := 2045) hx hb dl_law__40 (by decide) (by decide) rfl (by decide) ?_
        exact lc_spread C hi hI hl hrm kk ((j_spread hok (xs (i + 1)) (xs (i + 2))).jj (by decide))
      · refine lv_tableIn (tgt := 2113) hx hb dl_law__40 (by decide) (by decide) rfl (by decide) ?_
        exact lc_masks C hi hI hl hrm kk ((j_masks hok (xs (i + 1))).jj (by decide))
      · refine lv_tableIn (tgt := 2169) hx hb dl_law__40 (by decide) (by decide) rfl (by decide) ?_
        exact lc_rank C hi hI hl hrm kk ((j_rank hok (xs (i + 1))).jj (by decide))
      · refine lv_tableIn (tgt := 2225) hx hb dl_law__40 (by decide) (by decide) rfl (by decide) ?_
        exact lc_mild C hi hI hl hrm kk ((j_mild hok (xs (i + 1))).jj (by decide))
      · refine lv_tableIn (tgt := 2281) hx hb dl_law__40 (by decide) (by decide) rfl (by decide) ?_
        exact lc_unlike C hi hI hl hrm kk ((j_unlike hok (xs (i + 1))).jj (by decide))
      · refine lv_tableIn (tgt := 2337) hx hb dl_law__40 (by decide) (by decide) rfl (by decide) ?_
        exact lc_century C hi hI hl hrm kk ((j_century hok (xs (i + 1)) (xs (i + 2)) (xs (i + 3)) (xs (i + 4))).jj (by decide))
      · refine lv_tableIn (tgt := 2429) hx hb dl_law__40 (by decide) (by decide) rfl (by decide) ?_
        exact lc_span C hi hI hl hrm kk ((j_span hok (xs (i + 1)) (xs (i + 2)) (xs (i + 3)) (xs (i + 4)) (xs (i + 5)) (xs (i + 6))).jj (by decide))
      · refine lv_tableIn (tgt := 2547) hx hb dl_law__40 (by decide) (by decide) rfl (by decide) ?_
        exact lc_image C hi hI hl hrm kk ((j_image hok ).jj (by decide))
      · refine lv_tableIn (tgt := 2560) hx hb dl_law__40 (by decide) (by decide) rfl (by decide) ?_
        exact lc_restore C hi hI hl hrm kk ((j_restore ).jj (by decide))
      · refine lv_tableIn (tgt := 2573) hx hb dl_law__40 (by decide) (by decide) rfl (by decide) ?_
        exact lc_status C hi hI hl hrm kk ((j_status (xs (i + 1))).jj (by decide))
      · refine lv_tableIn (tgt := 2598) hx hb dl_law__40 (by decide) (by decide) rfl (by decide) ?_
        exact lc_count C hi hI hl hrm kk ((j_count (xs (i + 1))).jj (by decide))
      · exact lv_tableOut (tgt := 2623) hx hb dl_law__40 (Or.inr (by decide)) (by decide) (W.widen (k := cells + 6) (n := slots + 74) (by omega) (by omega) (kk H locs ls X hI hl))
      · exact lv_tableOut (tgt := 2623) hx hb dl_law__40 (Or.inr (by decide)) (by decide) (W.widen (k := cells + 6) (n := slots + 74) (by omega) (by omega) (kk H locs ls X hI hl))
      · exact lv_tableOut (tgt := 2623) hx hb dl_law__40 (Or.inr (by decide)) (by decide) (W.widen (k := cells + 6) (n := slots + 74) (by omega) (by omega) (kk H locs ls X hI hl))
      · exact lv_tableOut (tgt := 2623) hx hb dl_law__40 (Or.inr (by decide)) (by decide) (W.widen (k := cells + 6) (n := slots + 74) (by omega) (by omega) (kk H locs ls X hI hl))
      · exact lv_tableOut (tgt := 2623) hx hb dl_law__40 (Or.inr (by decide)) (by decide) (W.widen (k := cells + 6) (n := slots + 74) (by omega) (by omega) (kk H locs ls X hI hl))
      · exact lv_tableOut (tgt := 2623) hx hb dl_law__40 (Or.inr (by decide)) (by decide) (W.widen (k := cells + 6) (n := slots + 74) (by omega) (by omega) (kk H locs ls X hI hl))
      · exact lv_tableOut (tgt := 2623) hx hb dl_law__40 (Or.inr (by decide)) (by decide) (W.widen (k := cells + 6) (n := slots + 74) (by omega) (by omega) (kk H locs ls X hI hl))
      · exact lv_tableOut (tgt := 2623) hx hb dl_law__40 (Or.inr (by decide)) (by decide) (W.widen (k := cells + 6) (n := slots + 74) (by omega) (by omega) (kk H locs ls X hI hl))
      · exact lv_tableOut (tgt := 2623) hx hb dl_law__40 (Or.inr (by decide)) (by decide) (W.widen (k := cells + 6) (n := slots + 74) (by omega) (by omega) (kk H locs ls X hI hl))
      · exact lv_tableOut (tgt := 2623) hx hb dl_law__40 (Or.inr (by decide)) (by decide) (W.widen (k := cells + 6) (n := slots + 74) (by omega) (by omega) (kk H locs ls X hI hl))
      · exact lv_tableOut (tgt := 2623) hx hb dl_law__40 (Or.inr (by decide)) (by decide) (W.widen (k := cells + 6) (n := slots + 74) (by omega) (by omega) (kk H locs ls X hI hl))
      · exact lv_tableOut (tgt := 2623) hx hb dl_law__40 (Or.inr (by decide)) (by decide) (W.widen (k := cells + 6) (n := slots + 74) (by omega) (by omega) (kk H locs ls X hI hl))
      · exact lv_tableOut (tgt := 2623) hx hb dl_law__40 (Or.inr (by decide)) (by decide) (W.widen (k := cells + 6) (n := slots + 74) (by omega) (by omega) (kk H locs ls X hI hl))
      · exact lv_tableOut (tgt := 2623) hx hb dl_law__40 (Or.inr (by decide)) (by decide) (W.widen (k := cells + 6) (n := slots + 74) (by omega) (by omega) (kk H locs ls X hI hl))
      · exact lv_tableOut (tgt := 2623) hx hb dl_law__40 (Or.inr (by decide)) (by decide) (W.widen (k := cells + 6) (n := slots + 74) (by omega) (by omega) (kk H locs ls X hI hl))
      · exact lv_tableOut (tgt := 2623) hx hb dl_law__40 (Or.inr (by decide)) (by decide) (W.widen (k := cells + 6) (n := slots + 74) (by omega) (by omega) (kk H locs ls X hI hl))
      · exact lv_tableOut (tgt := 2623) hx hb dl_law__40 (Or.inr (by decide)) (by decide) (W.widen (k := cells + 6) (n := slots + 74) (by omega) (by omega) (kk H locs ls X hI hl))
      · exact lv_tableOut (tgt := 2623) hx hb dl_law__40 (Or.inr (by decide)) (by decide) (W.widen (k := cells + 6) (n := slots + 74) (by omega) (by omega) (kk H locs ls X hI hl))
      · exact lv_tableOut (tgt := 2623) hx hb dl_law__40 (Or.inr (by decide)) (by decide) (W.widen (k := cells + 6) (n := slots + 74) (by omega) (by omega) (kk H locs ls X hI hl))
      · exact lv_tableOut (tgt := 2623) hx hb dl_law__40 (Or.inr (by decide)) (by decide) (W.widen (k := cells + 6) (n := slots + 74) (by omega) (by omega) (kk H locs ls X hI hl))
      · exact lv_tableOut (tgt := 2623) hx hb dl_law__40 (Or.inr (by decide)) (by decide) (W.widen (k := cells + 6) (n := slots + 74) (by omega) (by omega) (kk H locs ls X hI hl))
      · exact lv_tableOut (tgt := 2623) hx hb dl_law__40 (Or.inr (by decide)) (by decide) (W.widen (k := cells + 6) (n := slots + 74) (by omega) (by omega) (kk H locs ls X hI hl))
      · exact lv_tableOut (tgt := 2623) hx hb dl_law__40 (Or.inr (by decide)) (by decide) (W.widen (k := cells + 6) (n := slots + 74) (by omega) (by omega) (kk H locs ls X hI hl))
