/-! every case of the law -/
theorem lc_feed {p : Program} {l : Launch} {e : Env} {s : State} {m : MethodId} {args : Array Value} {below : List Frame} {meth : Method} {c : Code} {H : Heap} {locs : List Loc} {cells slots : Nat} {Q : State → Prop} {Z : rx_Z} {ls : Array Slot} {sb L i cB bB : Nat} {xs : Nat → Int32} {X : XS} (C : LW p l s m args c sb L xs Z) (hi : i + 9 ≤ L) (hI : LI Z s cB bB H locs X) (hl : lv_has ls 8 [(0, .ref sb), (1, .ref cB), (2, .ref bB), (3, .ref (bB + 475)), (4, .int (nI i))]) (hrm : cells + 6 ≤ 601024 ∧ slots + 74 ≤ 7293034) (kk : ∀ (H' : Heap) (locs' : List Loc) (ls' : Array Slot) (X' : XS), LI Z s cB bB H' locs' X' → lv_has ls' 8 [(0, .ref sb), (1, .ref cB), (2, .ref bB), (3, .ref (bB + 475)), (4, .int (nI i))] → W p l e room_1 s m args below meth c H' locs' (cells + 6) (slots + 74) Q (F0 m 2623 ls' [])) (hj : JXq 3 Z 120 179 [.int (xs (i + 1)), .int (xs (i + 2)), .int (xs (i + 3)), .int (xs (i + 4)), .int (xs (i + 5))] cB bB X) : W p l e room_1 s m args below meth c H locs cells slots Q (F0 m 220 ls []) := by
  obtain ⟨hx, hb, hml, hown, hts, hXs, hbl, hLL, hl9, hz1, hz2, hbs, hK, hX⟩ := id C
  obtain ⟨o, X', ok, hCL, hMR⟩ := hj
  have hS := hI.S hz1 hz2
  refine lv_aload_n hx hb dl_law__220 rfl (lv_at hl 1 rfl) ?_
  refine lw_argC (k := 1) (a0 := 0) (a4 := 4) hx hb hXs hbl hS hl rfl rfl hLL (by omega) (by decide) ⟨dl_law__221, dl_law__222, dl_law__224, dl_law__225, dl_law__226⟩ ?_
  refine lw_argC (k := 2) (a0 := 0) (a4 := 4) hx hb hXs hbl hS hl rfl rfl hLL (by omega) (by decide) ⟨dl_law__227, dl_law__228, dl_law__230, dl_law__231, dl_law__232⟩ ?_
  refine lw_argC (k := 3) (a0 := 0) (a4 := 4) hx hb hXs hbl hS hl rfl rfl hLL (by omega) (by decide) ⟨dl_law__233, dl_law__234, dl_law__236, dl_law__237, dl_law__238⟩ ?_
  refine lw_argC (k := 4) (a0 := 0) (a4 := 4) hx hb hXs hbl hS hl rfl rfl hLL (by omega) (by decide) ⟨dl_law__239, dl_law__240, dl_law__242, dl_law__243, dl_law__244⟩ ?_
  refine lw_argC (k := 5) (a0 := 0) (a4 := 4) hx hb hXs hbl hS hl rfl rfl hLL (by omega) (by decide) ⟨dl_law__245, dl_law__246, dl_law__248, dl_law__249, dl_law__250⟩ ?_
  refine lc_cls (vs := [.int (xs (i + 1)), .int (xs (i + 2)), .int (xs (i + 3)), .int (xs (i + 4)), .int (xs (i + 5))]) (rest := []) C ok hCL hI (show rx_ML[120]? = some rx_m120 from rfl) ⟨rl_w361, rl_w362, rl_w363⟩ rx_p120 rfl rfl hl.1 (by decide) dl_law__251 hrm (fun y H1 locs1 ho hm => ?_)
  have hS1 := hm.S hz1 hz2
  refine lv_aload_n hx hb dl_law__254 rfl (lv_at hl 2 rfl) ?_
  refine lw_argC (k := 1) (a0 := 0) (a4 := 4) hx hb hXs hbl hS1 hl rfl rfl hLL (by omega) (by decide) ⟨dl_law__255, dl_law__256, dl_law__258, dl_law__259, dl_law__260⟩ ?_
  refine lw_argC (k := 2) (a0 := 0) (a4 := 4) hx hb hXs hbl hS1 hl rfl rfl hLL (by omega) (by decide) ⟨dl_law__261, dl_law__262, dl_law__264, dl_law__265, dl_law__266⟩ ?_
  refine lw_argC (k := 3) (a0 := 0) (a4 := 4) hx hb hXs hbl hS1 hl rfl rfl hLL (by omega) (by decide) ⟨dl_law__267, dl_law__268, dl_law__270, dl_law__271, dl_law__272⟩ ?_
  refine lw_argC (k := 4) (a0 := 0) (a4 := 4) hx hb hXs hbl hS1 hl rfl rfl hLL (by omega) (by decide) ⟨dl_law__273, dl_law__274, dl_law__276, dl_law__277, dl_law__278⟩ ?_
  refine lw_argC (k := 5) (a0 := 0) (a4 := 4) hx hb hXs hbl hS1 hl rfl rfl hLL (by omega) (by decide) ⟨dl_law__279, dl_law__280, dl_law__282, dl_law__283, dl_law__284⟩ ?_
  exact lc_mod (p2 := 285) (vs := [.int (xs (i + 1)), .int (xs (i + 2)), .int (xs (i + 3)), .int (xs (i + 4)), .int (xs (i + 5))]) C ho hMR (show rx_ML[179]? = some rx_m179 from rfl) ⟨rl_w1500, rl_w1501, rl_w1502⟩ rx_p179 rfl rfl hm hl (by omega) (by omega) ⟨dl_law__285, dl_law__288⟩ (by decide) kk
theorem lc_dukedom {p : Program} {l : Launch} {e : Env} {s : State} {m : MethodId} {args : Array Value} {below : List Frame} {meth : Method} {c : Code} {H : Heap} {locs : List Loc} {cells slots : Nat} {Q : State → Prop} {Z : rx_Z} {ls : Array Slot} {sb L i cB bB : Nat} {xs : Nat → Int32} {X : XS} (C : LW p l s m args c sb L xs Z) (hi : i + 9 ≤ L) (hI : LI Z s cB bB H locs X) (hl : lv_has ls 8 [(0, .ref sb), (1, .ref cB), (2, .ref bB), (3, .ref (bB + 475)), (4, .int (nI i))]) (hrm : cells + 6 ≤ 601024 ∧ slots + 74 ≤ 7293034) (kk : ∀ (H' : Heap) (locs' : List Loc) (ls' : Array Slot) (X' : XS), LI Z s cB bB H' locs' X' → lv_has ls' 8 [(0, .ref sb), (1, .ref cB), (2, .ref bB), (3, .ref (bB + 475)), (4, .int (nI i))] → W p l e room_1 s m args below meth c H' locs' (cells + 6) (slots + 74) Q (F0 m 2623 ls' [])) (hj : JXq 0 Z 121 197 [.int (xs (i + 1))] cB bB X) : W p l e room_1 s m args below meth c H locs cells slots Q (F0 m 293 ls []) := by
  obtain ⟨hx, hb, hml, hown, hts, hXs, hbl, hLL, hl9, hz1, hz2, hbs, hK, hX⟩ := id C
  obtain ⟨o, X', ok, hCL, hMR⟩ := hj
  have hS := hI.S hz1 hz2
  refine lv_aload_n hx hb dl_law__293 rfl (lv_at hl 1 rfl) ?_
  refine lw_argC (k := 1) (a0 := 0) (a4 := 4) hx hb hXs hbl hS hl rfl rfl hLL (by omega) (by decide) ⟨dl_law__294, dl_law__295, dl_law__297, dl_law__298, dl_law__299⟩ ?_
  refine lv_aload_n hx hb dl_law__300 rfl (lv_at hl 3 rfl) ?_
  refine lc_stat (vs := [.int (xs (i + 1))]) C ok hCL hI (wr_dukedom hl9 hbs ok (hI.ob hz1)) ⟨rl_w492, rl_w0, rl_w490, rl_w491⟩ (by decide) (show rx_np yL_dukedom 3 by unfold rx_np; decide +kernel) rfl hl.1 dl_law__301 (by decide) hrm (fun H1 locs1 hm => ?_)
  have hS1 := hm.S hz1 hz2
  refine lv_istore (lv' := [(5, .int (cdO 0 o)), (0, .ref sb), (1, .ref cB), (2, .ref bB), (3, .ref (bB + 475)), (4, .int (nI i))]) hx hb dl_law__304 hl (by decide) rfl (fun ls1 hl1 => ?_)
  refine lv_aload_n hx hb dl_law__306 rfl (lv_at hl1 3 rfl) ?_
  refine lw_argC (k := 1) (a0 := 1) (a4 := 5) hx hb hXs hbl hS1 hl1 rfl rfl hLL (by omega) (by decide) ⟨dl_law__307, dl_law__308, dl_law__310, dl_law__311, dl_law__312⟩ ?_
  exact lc_tail (p2 := 313) (vs := [.int (xs (i + 1))]) C ok hMR (by decide) (by decide) (show rx_ML[197]? = some rx_m197 from rfl) ⟨rl_w1504, rl_w1505, rl_w1506⟩ rx_p197 rfl rfl hm hl1 (by omega) (by omega) ⟨dl_law__313, dl_law__316, dl_law__318, dl_law__319, dl_law__322, dl_law__324, dl_law__329, dl_law__331, dl_law__334, dl_law__335, dl_law__336, dl_law__337, dl_law__339, dl_law__340, dl_law__341, dl_law__346⟩ (by decide) kk
theorem lc_law {p : Program} {l : Launch} {e : Env} {s : State} {m : MethodId} {args : Array Value} {below : List Frame} {meth : Method} {c : Code} {H : Heap} {locs : List Loc} {cells slots : Nat} {Q : State → Prop} {Z : rx_Z} {ls : Array Slot} {sb L i cB bB : Nat} {xs : Nat → Int32} {X : XS} (C : LW p l s m args c sb L xs Z) (hi : i + 9 ≤ L) (hI : LI Z s cB bB H locs X) (hl : lv_has ls 8 [(0, .ref sb), (1, .ref cB), (2, .ref bB), (3, .ref (bB + 475)), (4, .int (nI i))]) (hrm : cells + 6 ≤ 601024 ∧ slots + 74 ≤ 7293034) (kk : ∀ (H' : Heap) (locs' : List Loc) (ls' : Array Slot) (X' : XS), LI Z s cB bB H' locs' X' → lv_has ls' 8 [(0, .ref sb), (1, .ref cB), (2, .ref bB), (3, .ref (bB + 475)), (4, .int (nI i))] → W p l e room_1 s m args below meth c H' locs' (cells + 6) (slots + 74) Q (F0 m 2623 ls' [])) (hj : JXq 0 Z 122 207 [.int (xs (i + 1))] cB bB X) : W p l e room_1 s m args below meth c H locs cells slots Q (F0 m 349 ls []) := by
  obtain ⟨hx, hb, hml, hown, hts, hXs, hbl, hLL, hl9, hz1, hz2, hbs, hK, hX⟩ := id C
  obtain ⟨o, X', ok, hCL, hMR⟩ := hj
  have hS := hI.S hz1 hz2
  refine lv_aload_n hx hb dl_law__349 rfl (lv_at hl 1 rfl) ?_
  refine lw_argC (k := 1) (a0 := 0) (a4 := 4) hx hb hXs hbl hS hl rfl rfl hLL (by omega) (by decide) ⟨dl_law__350, dl_law__351, dl_law__353, dl_law__354, dl_law__355⟩ ?_
  refine lv_aload_n hx hb dl_law__356 rfl (lv_at hl 3 rfl) ?_
  refine lc_stat (vs := [.int (xs (i + 1))]) C ok hCL hI (wr_law hl9 hbs ok (hI.ob hz1)) ⟨rl_w709, rl_w0, rl_w707, rl_w708⟩ (by decide) (show rx_np yL_law 3 by unfold rx_np; decide +kernel) rfl hl.1 dl_law__357 (by decide) hrm (fun H1 locs1 hm => ?_)
  have hS1 := hm.S hz1 hz2
  refine lv_istore (lv' := [(5, .int (cdO 0 o)), (0, .ref sb), (1, .ref cB), (2, .ref bB), (3, .ref (bB + 475)), (4, .int (nI i))]) hx hb dl_law__360 hl (by decide) rfl (fun ls1 hl1 => ?_)
  refine lv_aload_n hx hb dl_law__362 rfl (lv_at hl1 3 rfl) ?_
  refine lw_argC (k := 1) (a0 := 1) (a4 := 5) hx hb hXs hbl hS1 hl1 rfl rfl hLL (by omega) (by decide) ⟨dl_law__363, dl_law__364, dl_law__366, dl_law__367, dl_law__368⟩ ?_
  exact lc_tail (p2 := 369) (vs := [.int (xs (i + 1))]) C ok hMR (by decide) (by decide) (show rx_ML[207]? = some rx_m207 from rfl) ⟨rl_w1573, rl_w1574, rl_w1575⟩ rx_p207 rfl rfl hm hl1 (by omega) (by omega) ⟨dl_law__369, dl_law__372, dl_law__374, dl_law__375, dl_law__378, dl_law__380, dl_law__385, dl_law__387, dl_law__390, dl_law__391, dl_law__392, dl_law__393, dl_law__395, dl_law__396, dl_law__397, dl_law__402⟩ (by decide) kk
theorem lc_work {p : Program} {l : Launch} {e : Env} {s : State} {m : MethodId} {args : Array Value} {below : List Frame} {meth : Method} {c : Code} {H : Heap} {locs : List Loc} {cells slots : Nat} {Q : State → Prop} {Z : rx_Z} {ls : Array Slot} {sb L i cB bB : Nat} {xs : Nat → Int32} {X : XS} (C : LW p l s m args c sb L xs Z) (hi : i + 9 ≤ L) (hI : LI Z s cB bB H locs X) (hl : lv_has ls 8 [(0, .ref sb), (1, .ref cB), (2, .ref bB), (3, .ref (bB + 475)), (4, .int (nI i))]) (hrm : cells + 6 ≤ 601024 ∧ slots + 74 ≤ 7293034) (kk : ∀ (H' : Heap) (locs' : List Loc) (ls' : Array Slot) (X' : XS), LI Z s cB bB H' locs' X' → lv_has ls' 8 [(0, .ref sb), (1, .ref cB), (2, .ref bB), (3, .ref (bB + 475)), (4, .int (nI i))] → W p l e room_1 s m args below meth c H' locs' (cells + 6) (slots + 74) Q (F0 m 2623 ls' [])) (hj : JXq 0 Z 123 232 [.int (xs (i + 1))] cB bB X) : W p l e room_1 s m args below meth c H locs cells slots Q (F0 m 405 ls []) := by
  obtain ⟨hx, hb, hml, hown, hts, hXs, hbl, hLL, hl9, hz1, hz2, hbs, hK, hX⟩ := id C
  obtain ⟨o, X', ok, hCL, hMR⟩ := hj
  have hS := hI.S hz1 hz2
  refine lv_aload_n hx hb dl_law__405 rfl (lv_at hl 1 rfl) ?_
  refine lw_argC (k := 1) (a0 := 0) (a4 := 4) hx hb hXs hbl hS hl rfl rfl hLL (by omega) (by decide) ⟨dl_law__406, dl_law__407, dl_law__409, dl_law__410, dl_law__411⟩ ?_
  refine lv_aload_n hx hb dl_law__412 rfl (lv_at hl 3 rfl) ?_
  refine lc_stat (vs := [.int (xs (i + 1))]) C ok hCL hI (wr_work hl9 hbs ok (hI.ob hz1)) ⟨rl_w795, rl_w0, rl_w793, rl_w794⟩ (by decide) (show rx_np yL_work 3 by unfold rx_np; decide +kernel) rfl hl.1 dl_law__413 (by decide) hrm (fun H1 locs1 hm => ?_)
  have hS1 := hm.S hz1 hz2
  refine lv_istore (lv' := [(5, .int (cdO 0 o)), (0, .ref sb), (1, .ref cB), (2, .ref bB), (3, .ref (bB + 475)), (4, .int (nI i))]) hx hb dl_law__416 hl (by decide) rfl (fun ls1 hl1 => ?_)
  refine lv_aload_n hx hb dl_law__418 rfl (lv_at hl1 3 rfl) ?_
  refine lw_argC (k := 1) (a0 := 1) (a4 := 5) hx hb hXs hbl hS1 hl1 rfl rfl hLL (by omega) (by decide) ⟨dl_law__419, dl_law__420, dl_law__422, dl_law__423, dl_law__424⟩ ?_
  exact lc_tail (p2 := 425) (vs := [.int (xs (i + 1))]) C ok hMR (by decide) (by decide) (show rx_ML[232]? = some rx_m232 from rfl) ⟨rl_w1620, rl_w1621, rl_w1622⟩ rx_p232 rfl rfl hm hl1 (by omega) (by omega) ⟨dl_law__425, dl_law__428, dl_law__430, dl_law__431, dl_law__434, dl_law__436, dl_law__441, dl_law__443, dl_law__446, dl_law__447, dl_law__448, dl_law__449, dl_law__451, dl_law__452, dl_law__453, dl_law__458⟩ (by decide) kk
theorem lc_book {p : Program} {l : Launch} {e : Env} {s : State} {m : MethodId} {args : Array Value} {below : List Frame} {meth : Method} {c : Code} {H : Heap} {locs : List Loc} {cells slots : Nat} {Q : State → Prop} {Z : rx_Z} {ls : Array Slot} {sb L i cB bB : Nat} {xs : Nat → Int32} {X : XS} (C : LW p l s m args c sb L xs Z) (hi : i + 9 ≤ L) (hI : LI Z s cB bB H locs X) (hl : lv_has ls 8 [(0, .ref sb), (1, .ref cB), (2, .ref bB), (3, .ref (bB + 475)), (4, .int (nI i))]) (hrm : cells + 6 ≤ 601024 ∧ slots + 74 ≤ 7293034) (kk : ∀ (H' : Heap) (locs' : List Loc) (ls' : Array Slot) (X' : XS), LI Z s cB bB H' locs' X' → lv_has ls' 8 [(0, .ref sb), (1, .ref cB), (2, .ref bB), (3, .ref (bB + 475)), (4, .int (nI i))] → W p l e room_1 s m args below meth c H' locs' (cells + 6) (slots + 74) Q (F0 m 2623 ls' [])) (hj : JXq 0 Z 124 212 [.int (xs (i + 1))] cB bB X) : W p l e room_1 s m args below meth c H locs cells slots Q (F0 m 461 ls []) := by
  obtain ⟨hx, hb, hml, hown, hts, hXs, hbl, hLL, hl9, hz1, hz2, hbs, hK, hX⟩ := id C
  obtain ⟨o, X', ok, hCL, hMR⟩ := hj
  have hS := hI.S hz1 hz2
  refine lv_aload_n hx hb dl_law__461 rfl (lv_at hl 1 rfl) ?_
  refine lw_argC (k := 1) (a0 := 0) (a4 := 4) hx hb hXs hbl hS hl rfl rfl hLL (by omega) (by decide) ⟨dl_law__462, dl_law__463, dl_law__465, dl_law__466, dl_law__467⟩ ?_
  refine lv_aload_n hx hb dl_law__468 rfl (lv_at hl 3 rfl) ?_
  refine lc_stat (vs := [.int (xs (i + 1))]) C ok hCL hI (wr_book hl9 hbs ok (hI.ob hz1)) ⟨rl_w932, rl_w0, rl_w930, rl_w931⟩ (by decide) (show rx_np yL_book 3 by unfold rx_np; decide +kernel) rfl hl.1 dl_law__469 (by decide) hrm (fun H1 locs1 hm => ?_)
  have hS1 := hm.S hz1 hz2
  refine lv_istore (lv' := [(5, .int (cdO 0 o)), (0, .ref sb), (1, .ref cB), (2, .ref bB), (3, .ref (bB + 475)), (4, .int (nI i))]) hx hb dl_law__472 hl (by decide) rfl (fun ls1 hl1 => ?_)
  refine lv_aload_n hx hb dl_law__474 rfl (lv_at hl1 3 rfl) ?_
  refine lw_argC (k := 1) (a0 := 1) (a4 := 5) hx hb hXs hbl hS1 hl1 rfl rfl hLL (by omega) (by decide) ⟨dl_law__475, dl_law__476, dl_law__478, dl_law__479, dl_law__480⟩ ?_
  exact lc_tail (p2 := 481) (vs := [.int (xs (i + 1))]) C ok hMR (by decide) (by decide) (show rx_ML[212]? = some rx_m212 from rfl) ⟨rl_w1609, rl_w1610, rl_w1611⟩ rx_p212 rfl rfl hm hl1 (by omega) (by omega) ⟨dl_law__481, dl_law__484, dl_law__486, dl_law__487, dl_law__490, dl_law__492, dl_law__497, dl_law__499, dl_law__502, dl_law__503, dl_law__504, dl_law__505, dl_law__507, dl_law__508, dl_law__509, dl_law__514⟩ (by decide) kk
theorem lc_fault {p : Program} {l : Launch} {e : Env} {s : State} {m : MethodId} {args : Array Value} {below : List Frame} {meth : Method} {c : Code} {H : Heap} {locs : List Loc} {cells slots : Nat} {Q : State → Prop} {Z : rx_Z} {ls : Array Slot} {sb L i cB bB : Nat} {xs : Nat → Int32} {X : XS} (C : LW p l s m args c sb L xs Z) (hi : i + 9 ≤ L) (hI : LI Z s cB bB H locs X) (hl : lv_has ls 8 [(0, .ref sb), (1, .ref cB), (2, .ref bB), (3, .ref (bB + 475)), (4, .int (nI i))]) (hrm : cells + 6 ≤ 601024 ∧ slots + 74 ≤ 7293034) (kk : ∀ (H' : Heap) (locs' : List Loc) (ls' : Array Slot) (X' : XS), LI Z s cB bB H' locs' X' → lv_has ls' 8 [(0, .ref sb), (1, .ref cB), (2, .ref bB), (3, .ref (bB + 475)), (4, .int (nI i))] → W p l e room_1 s m args below meth c H' locs' (cells + 6) (slots + 74) Q (F0 m 2623 ls' [])) (hj : JXq 3 Z 125 213 [] cB bB X) : W p l e room_1 s m args below meth c H locs cells slots Q (F0 m 517 ls []) := by
  obtain ⟨hx, hb, hml, hown, hts, hXs, hbl, hLL, hl9, hz1, hz2, hbs, hK, hX⟩ := id C
  obtain ⟨o, X', ok, hCL, hMR⟩ := hj
  have hS := hI.S hz1 hz2
  refine lv_aload_n hx hb dl_law__517 rfl (lv_at hl 1 rfl) ?_
  refine lc_cls (vs := []) (rest := []) C ok hCL hI (show rx_ML[125]? = some rx_m125 from rfl) ⟨rl_w369, rl_w370, rl_w371⟩ rx_p125 rfl rfl hl.1 (by decide) dl_law__518 hrm (fun y H1 locs1 ho hm => ?_)
  have hS1 := hm.S hz1 hz2
  refine lv_aload_n hx hb dl_law__521 rfl (lv_at hl 2 rfl) ?_
  exact lc_mod (p2 := 522) (vs := []) C ho hMR (show rx_ML[213]? = some rx_m213 from rfl) ⟨rl_w1616, rl_w1617, rl_w1618⟩ rx_p213 rfl rfl hm hl (by omega) (by omega) ⟨dl_law__522, dl_law__525⟩ (by decide) kk
theorem lc_undo {p : Program} {l : Launch} {e : Env} {s : State} {m : MethodId} {args : Array Value} {below : List Frame} {meth : Method} {c : Code} {H : Heap} {locs : List Loc} {cells slots : Nat} {Q : State → Prop} {Z : rx_Z} {ls : Array Slot} {sb L i cB bB : Nat} {xs : Nat → Int32} {X : XS} (C : LW p l s m args c sb L xs Z) (hi : i + 9 ≤ L) (hI : LI Z s cB bB H locs X) (hl : lv_has ls 8 [(0, .ref sb), (1, .ref cB), (2, .ref bB), (3, .ref (bB + 475)), (4, .int (nI i))]) (hrm : cells + 6 ≤ 601024 ∧ slots + 74 ≤ 7293034) (kk : ∀ (H' : Heap) (locs' : List Loc) (ls' : Array Slot) (X' : XS), LI Z s cB bB H' locs' X' → lv_has ls' 8 [(0, .ref sb), (1, .ref cB), (2, .ref bB), (3, .ref (bB + 475)), (4, .int (nI i))] → W p l e room_1 s m args below meth c H' locs' (cells + 6) (slots + 74) Q (F0 m 2623 ls' [])) (hj : JXq 3 Z 126 233 [] cB bB X) : W p l e room_1 s m args below meth c H locs cells slots Q (F0 m 530 ls []) := by
  obtain ⟨hx, hb, hml, hown, hts, hXs, hbl, hLL, hl9, hz1, hz2, hbs, hK, hX⟩ := id C
  obtain ⟨o, X', ok, hCL, hMR⟩ := hj
  have hS := hI.S hz1 hz2
  refine lv_aload_n hx hb dl_law__530 rfl (lv_at hl 1 rfl) ?_
  refine lc_cls (vs := []) (rest := []) C ok hCL hI (show rx_ML[126]? = some rx_m126 from rfl) ⟨rl_w373, rl_w374, rl_w375⟩ rx_p126 rfl rfl hl.1 (by decide) dl_law__531 hrm (fun y H1 locs1 ho hm => ?_)
  have hS1 := hm.S hz1 hz2
  refine lv_aload_n hx hb dl_law__534 rfl (lv_at hl 2 rfl) ?_
  exact lc_mod (p2 := 535) (vs := []) C ho hMR (show rx_ML[233]? = some rx_m233 from rfl) ⟨rl_w1711, rl_w1712, rl_w1713⟩ rx_p233 rfl rfl hm hl (by omega) (by omega) ⟨dl_law__535, dl_law__538⟩ (by decide) kk
theorem lc_told {p : Program} {l : Launch} {e : Env} {s : State} {m : MethodId} {args : Array Value} {below : List Frame} {meth : Method} {c : Code} {H : Heap} {locs : List Loc} {cells slots : Nat} {Q : State → Prop} {Z : rx_Z} {ls : Array Slot} {sb L i cB bB : Nat} {xs : Nat → Int32} {X : XS} (C : LW p l s m args c sb L xs Z) (hi : i + 9 ≤ L) (hI : LI Z s cB bB H locs X) (hl : lv_has ls 8 [(0, .ref sb), (1, .ref cB), (2, .ref bB), (3, .ref (bB + 475)), (4, .int (nI i))]) (hrm : cells + 6 ≤ 601024 ∧ slots + 74 ≤ 7293034) (kk : ∀ (H' : Heap) (locs' : List Loc) (ls' : Array Slot) (X' : XS), LI Z s cB bB H' locs' X' → lv_has ls' 8 [(0, .ref sb), (1, .ref cB), (2, .ref bB), (3, .ref (bB + 475)), (4, .int (nI i))] → W p l e room_1 s m args below meth c H' locs' (cells + 6) (slots + 74) Q (F0 m 2623 ls' [])) (hj : JXq 0 Z 127 235 [.int (xs (i + 1))] cB bB X) : W p l e room_1 s m args below meth c H locs cells slots Q (F0 m 543 ls []) := by
  obtain ⟨hx, hb, hml, hown, hts, hXs, hbl, hLL, hl9, hz1, hz2, hbs, hK, hX⟩ := id C
  obtain ⟨o, X', ok, hCL, hMR⟩ := hj
  have hS := hI.S hz1 hz2
  refine lv_aload_n hx hb dl_law__543 rfl (lv_at hl 1 rfl) ?_
  refine lw_argC (k := 1) (a0 := 0) (a4 := 4) hx hb hXs hbl hS hl rfl rfl hLL (by omega) (by decide) ⟨dl_law__544, dl_law__545, dl_law__547, dl_law__548, dl_law__549⟩ ?_
  refine lv_aload_n hx hb dl_law__550 rfl (lv_at hl 3 rfl) ?_
  refine lc_stat (vs := [.int (xs (i + 1))]) C ok hCL hI (wr_told hl9 hbs ok (hI.ob hz1)) ⟨rl_w952, rl_w0, rl_w950, rl_w951⟩ (by decide) (show rx_np yL_told 3 by unfold rx_np; decide +kernel) rfl hl.1 dl_law__551 (by decide) hrm (fun H1 locs1 hm => ?_)
  have hS1 := hm.S hz1 hz2
  refine lv_istore (lv' := [(5, .int (cdO 0 o)), (0, .ref sb), (1, .ref cB), (2, .ref bB), (3, .ref (bB + 475)), (4, .int (nI i))]) hx hb dl_law__554 hl (by decide) rfl (fun ls1 hl1 => ?_)
  refine lv_aload_n hx hb dl_law__556 rfl (lv_at hl1 3 rfl) ?_
  refine lw_argC (k := 1) (a0 := 1) (a4 := 5) hx hb hXs hbl hS1 hl1 rfl rfl hLL (by omega) (by decide) ⟨dl_law__557, dl_law__558, dl_law__560, dl_law__561, dl_law__562⟩ ?_
  exact lc_tail (p2 := 563) (vs := [.int (xs (i + 1))]) C ok hMR (by decide) (by decide) (show rx_ML[235]? = some rx_m235 from rfl) ⟨rl_w1715, rl_w1716, rl_w1717⟩ rx_p235 rfl rfl hm hl1 (by omega) (by omega) ⟨dl_law__563, dl_law__566, dl_law__568, dl_law__569, dl_law__572, dl_law__574, dl_law__579, dl_law__581, dl_law__584, dl_law__585, dl_law__586, dl_law__587, dl_law__589, dl_law__590, dl_law__591, dl_law__596⟩ (by decide) kk
theorem lc_person {p : Program} {l : Launch} {e : Env} {s : State} {m : MethodId} {args : Array Value} {below : List Frame} {meth : Method} {c : Code} {H : Heap} {locs : List Loc} {cells slots : Nat} {Q : State → Prop} {Z : rx_Z} {ls : Array Slot} {sb L i cB bB : Nat} {xs : Nat → Int32} {X : XS} (C : LW p l s m args c sb L xs Z) (hi : i + 9 ≤ L) (hI : LI Z s cB bB H locs X) (hl : lv_has ls 8 [(0, .ref sb), (1, .ref cB), (2, .ref bB), (3, .ref (bB + 475)), (4, .int (nI i))]) (hrm : cells + 6 ≤ 601024 ∧ slots + 74 ≤ 7293034) (kk : ∀ (H' : Heap) (locs' : List Loc) (ls' : Array Slot) (X' : XS), LI Z s cB bB H' locs' X' → lv_has ls' 8 [(0, .ref sb), (1, .ref cB), (2, .ref bB), (3, .ref (bB + 475)), (4, .int (nI i))] → W p l e room_1 s m args below meth c H' locs' (cells + 6) (slots + 74) Q (F0 m 2623 ls' [])) (hj : JXq 2 Z 128 238 [.int (xs (i + 1)), .int (xs (i + 2))] cB bB X) : W p l e room_1 s m args below meth c H locs cells slots Q (F0 m 599 ls []) := by
  obtain ⟨hx, hb, hml, hown, hts, hXs, hbl, hLL, hl9, hz1, hz2, hbs, hK, hX⟩ := id C
  obtain ⟨o, X', ok, hCL, hMR⟩ := hj
  have hS := hI.S hz1 hz2
  refine lv_aload_n hx hb dl_law__599 rfl (lv_at hl 1 rfl) ?_
  refine lw_argC (k := 1) (a0 := 0) (a4 := 4) hx hb hXs hbl hS hl rfl rfl hLL (by omega) (by decide) ⟨dl_law__600, dl_law__601, dl_law__603, dl_law__604, dl_law__605⟩ ?_
  refine lw_argC (k := 2) (a0 := 0) (a4 := 4) hx hb hXs hbl hS hl rfl rfl hLL (by omega) (by decide) ⟨dl_law__606, dl_law__607, dl_law__609, dl_law__610, dl_law__611⟩ ?_
  refine lv_aload_n hx hb dl_law__612 rfl (lv_at hl 3 rfl) ?_
  refine lc_stat (vs := [.int (xs (i + 1)), .int (xs (i + 2))]) C ok hCL hI (wr_person hl9 hbs ok (hI.ob hz1)) ⟨rl_w964, rl_w0, rl_w962, rl_w963⟩ (by decide) (show rx_np yL_person 4 by unfold rx_np; decide +kernel) rfl hl.1 dl_law__613 (by decide) hrm (fun H1 locs1 hm => ?_)
  have hS1 := hm.S hz1 hz2
  refine lv_istore (lv' := [(5, .int (cdO 2 o)), (0, .ref sb), (1, .ref cB), (2, .ref bB), (3, .ref (bB + 475)), (4, .int (nI i))]) hx hb dl_law__616 hl (by decide) rfl (fun ls1 hl1 => ?_)
  refine lv_aload_n hx hb dl_law__618 rfl (lv_at hl1 3 rfl) ?_
  refine lw_argC (k := 1) (a0 := 1) (a4 := 5) hx hb hXs hbl hS1 hl1 rfl rfl hLL (by omega) (by decide) ⟨dl_law__619, dl_law__620, dl_law__622, dl_law__623, dl_law__624⟩ ?_
  refine lw_argC (k := 2) (a0 := 1) (a4 := 5) hx hb hXs hbl hS1 hl1 rfl rfl hLL (by omega) (by decide) ⟨dl_law__625, dl_law__626, dl_law__628, dl_law__629, dl_law__630⟩ ?_
  exact lc_tail (p2 := 631) (vs := [.int (xs (i + 1)), .int (xs (i + 2))]) C ok hMR (by decide) (by decide) (show rx_ML[238]? = some rx_m238 from rfl) ⟨rl_w1719, rl_w1720, rl_w1721⟩ rx_p238 rfl rfl hm hl1 (by omega) (by omega) ⟨dl_law__631, dl_law__634, dl_law__636, dl_law__637, dl_law__640, dl_law__642, dl_law__647, dl_law__649, dl_law__652, dl_law__653, dl_law__654, dl_law__655, dl_law__657, dl_law__658, dl_law__659, dl_law__664⟩ (by decide) kk
theorem lc_far {p : Program} {l : Launch} {e : Env} {s : State} {m : MethodId} {args : Array Value} {below : List Frame} {meth : Method} {c : Code} {H : Heap} {locs : List Loc} {cells slots : Nat} {Q : State → Prop} {Z : rx_Z} {ls : Array Slot} {sb L i cB bB : Nat} {xs : Nat → Int32} {X : XS} (C : LW p l s m args c sb L xs Z) (hi : i + 9 ≤ L) (hI : LI Z s cB bB H locs X) (hl : lv_has ls 8 [(0, .ref sb), (1, .ref cB), (2, .ref bB), (3, .ref (bB + 475)), (4, .int (nI i))]) (hrm : cells + 6 ≤ 601024 ∧ slots + 74 ≤ 7293034) (kk : ∀ (H' : Heap) (locs' : List Loc) (ls' : Array Slot) (X' : XS), LI Z s cB bB H' locs' X' → lv_has ls' 8 [(0, .ref sb), (1, .ref cB), (2, .ref bB), (3, .ref (bB + 475)), (4, .int (nI i))] → W p l e room_1 s m args below meth c H' locs' (cells + 6) (slots + 74) Q (F0 m 2623 ls' [])) (hj : JXq 1 Z 129 239 [.int (xs (i + 1)), .int (xs (i + 2))] cB bB X) : W p l e room_1 s m args below meth c H locs cells slots Q (F0 m 667 ls []) := by
  obtain ⟨hx, hb, hml, hown, hts, hXs, hbl, hLL, hl9, hz1, hz2, hbs, hK, hX⟩ := id C
  obtain ⟨o, X', ok, hCL, hMR⟩ := hj
  have hS := hI.S hz1 hz2
  refine lv_aload_n hx hb dl_law__667 rfl (lv_at hl 1 rfl) ?_
  refine lw_argC (k := 1) (a0 := 0) (a4 := 4) hx hb hXs hbl hS hl rfl rfl hLL (by omega) (by decide) ⟨dl_law__668, dl_law__669, dl_law__671, dl_law__672, dl_law__673⟩ ?_
  refine lw_argC (k := 2) (a0 := 0) (a4 := 4) hx hb hXs hbl hS hl rfl rfl hLL (by omega) (by decide) ⟨dl_law__674, dl_law__675, dl_law__677, dl_law__678, dl_law__679⟩ ?_
  refine lv_aload_n hx hb dl_law__680 rfl (lv_at hl 3 rfl) ?_
  refine lc_stat (vs := [.int (xs (i + 1)), .int (xs (i + 2))]) C ok hCL hI (wr_far hl9 hbs ok (hI.ob hz1)) ⟨rl_w1001, rl_w0, rl_w999, rl_w1000⟩ (by decide) (show rx_np yL_far 4 by unfold rx_np; decide +kernel) rfl hl.1 dl_law__681 (by decide) hrm (fun H1 locs1 hm => ?_)
  have hS1 := hm.S hz1 hz2
  refine lv_istore (lv' := [(5, .int (cdO 1 o)), (0, .ref sb), (1, .ref cB), (2, .ref bB), (3, .ref (bB + 475)), (4, .int (nI i))]) hx hb dl_law__684 hl (by decide) rfl (fun ls1 hl1 => ?_)
  refine lv_aload_n hx hb dl_law__686 rfl (lv_at hl1 3 rfl) ?_
  refine lw_argC (k := 1) (a0 := 1) (a4 := 5) hx hb hXs hbl hS1 hl1 rfl rfl hLL (by omega) (by decide) ⟨dl_law__687, dl_law__688, dl_law__690, dl_law__691, dl_law__692⟩ ?_
  refine lw_argC (k := 2) (a0 := 1) (a4 := 5) hx hb hXs hbl hS1 hl1 rfl rfl hLL (by omega) (by decide) ⟨dl_law__693, dl_law__694, dl_law__696, dl_law__697, dl_law__698⟩ ?_
  exact lc_tail (p2 := 699) (vs := [.int (xs (i + 1)), .int (xs (i + 2))]) C ok hMR (by decide) (by decide) (show rx_ML[239]? = some rx_m239 from rfl) ⟨rl_w1731, rl_w1732, rl_w1733⟩ rx_p239 rfl rfl hm hl1 (by omega) (by omega) ⟨dl_law__699, dl_law__702, dl_law__704, dl_law__705, dl_law__708, dl_law__710, dl_law__715, dl_law__717, dl_law__720, dl_law__721, dl_law__722, dl_law__723, dl_law__725, dl_law__726, dl_law__727, dl_law__732⟩ (by decide) kk
theorem lc_would {p : Program} {l : Launch} {e : Env} {s : State} {m : MethodId} {args : Array Value} {below : List Frame} {meth : Method} {c : Code} {H : Heap} {locs : List Loc} {cells slots : Nat} {Q : State → Prop} {Z : rx_Z} {ls : Array Slot} {sb L i cB bB : Nat} {xs : Nat → Int32} {X : XS} (C : LW p l s m args c sb L xs Z) (hi : i + 9 ≤ L) (hI : LI Z s cB bB H locs X) (hl : lv_has ls 8 [(0, .ref sb), (1, .ref cB), (2, .ref bB), (3, .ref (bB + 475)), (4, .int (nI i))]) (hrm : cells + 6 ≤ 601024 ∧ slots + 74 ≤ 7293034) (kk : ∀ (H' : Heap) (locs' : List Loc) (ls' : Array Slot) (X' : XS), LI Z s cB bB H' locs' X' → lv_has ls' 8 [(0, .ref sb), (1, .ref cB), (2, .ref bB), (3, .ref (bB + 475)), (4, .int (nI i))] → W p l e room_1 s m args below meth c H' locs' (cells + 6) (slots + 74) Q (F0 m 2623 ls' [])) (hj : JXq 0 Z 130 240 [.int (xs (i + 1)), .int (xs (i + 2)), .int (xs (i + 3)), .int (xs (i + 4)), .int (xs (i + 5)), .int (xs (i + 6)), .int (xs (i + 7)), .int (xs (i + 8))] cB bB X) : W p l e room_1 s m args below meth c H locs cells slots Q (F0 m 735 ls []) := by
  obtain ⟨hx, hb, hml, hown, hts, hXs, hbl, hLL, hl9, hz1, hz2, hbs, hK, hX⟩ := id C
  obtain ⟨o, X', ok, hCL, hMR⟩ := hj
  have hS := hI.S hz1 hz2
  refine lv_aload_n hx hb dl_law__735 rfl (lv_at hl 1 rfl) ?_
  refine lw_argC (k := 1) (a0 := 0) (a4 := 4) hx hb hXs hbl hS hl rfl rfl hLL (by omega) (by decide) ⟨dl_law__736, dl_law__737, dl_law__739, dl_law__740, dl_law__741⟩ ?_
  refine lw_argC (k := 2) (a0 := 0) (a4 := 4) hx hb hXs hbl hS hl rfl rfl hLL (by omega) (by decide) ⟨dl_law__742, dl_law__743, dl_law__745, dl_law__746, dl_law__747⟩ ?_
  refine lw_argC (k := 3) (a0 := 0) (a4 := 4) hx hb hXs hbl hS hl rfl rfl hLL (by omega) (by decide) ⟨dl_law__748, dl_law__749, dl_law__751, dl_law__752, dl_law__753⟩ ?_
  refine lw_argC (k := 4) (a0 := 0) (a4 := 4) hx hb hXs hbl hS hl rfl rfl hLL (by omega) (by decide) ⟨dl_law__754, dl_law__755, dl_law__757, dl_law__758, dl_law__759⟩ ?_
  refine lw_argC (k := 5) (a0 := 0) (a4 := 4) hx hb hXs hbl hS hl rfl rfl hLL (by omega) (by decide) ⟨dl_law__760, dl_law__761, dl_law__763, dl_law__764, dl_law__765⟩ ?_
  refine lw_argB (k := 6) (a0 := 0) (a4 := 4) hx hb hXs hbl hS hl rfl rfl hLL (by omega) (by decide) ⟨dl_law__766, dl_law__767, dl_law__769, dl_law__771, dl_law__772⟩ ?_
  refine lw_argB (k := 7) (a0 := 0) (a4 := 4) hx hb hXs hbl hS hl rfl rfl hLL (by omega) (by decide) ⟨dl_law__773, dl_law__774, dl_law__776, dl_law__778, dl_law__779⟩ ?_
  refine lw_argB (k := 8) (a0 := 0) (a4 := 4) hx hb hXs hbl hS hl rfl rfl hLL (by omega) (by decide) ⟨dl_law__780, dl_law__781, dl_law__783, dl_law__785, dl_law__786⟩ ?_
  refine lv_aload_n hx hb dl_law__787 rfl (lv_at hl 3 rfl) ?_
  refine lc_stat (vs := [.int (xs (i + 1)), .int (xs (i + 2)), .int (xs (i + 3)), .int (xs (i + 4)), .int (xs (i + 5)), .int (xs (i + 6)), .int (xs (i + 7)), .int (xs (i + 8))]) C ok hCL hI (wr_would hl9 hbs ok (hI.ob hz1)) ⟨rl_w1009, rl_w0, rl_w1007, rl_w1008⟩ (by decide) (show rx_np yL_would 10 by unfold rx_np; decide +kernel) rfl hl.1 dl_law__788 (by decide) hrm (fun H1 locs1 hm => ?_)
  have hS1 := hm.S hz1 hz2
  refine lv_istore (lv' := [(5, .int (cdO 0 o)), (0, .ref sb), (1, .ref cB), (2, .ref bB), (3, .ref (bB + 475)), (4, .int (nI i))]) hx hb dl_law__791 hl (by decide) rfl (fun ls1 hl1 => ?_)
  refine lv_aload_n hx hb dl_law__793 rfl (lv_at hl1 3 rfl) ?_
  refine lw_argC (k := 1) (a0 := 1) (a4 := 5) hx hb hXs hbl hS1 hl1 rfl rfl hLL (by omega) (by decide) ⟨dl_law__794, dl_law__795, dl_law__797, dl_law__798, dl_law__799⟩ ?_
  refine lw_argC (k := 2) (a0 := 1) (a4 := 5) hx hb hXs hbl hS1 hl1 rfl rfl hLL (by omega) (by decide) ⟨dl_law__800, dl_law__801, dl_law__803, dl_law__804, dl_law__805⟩ ?_
  refine lw_argC (k := 3) (a0 := 1) (a4 := 5) hx hb hXs hbl hS1 hl1 rfl rfl hLL (by omega) (by decide) ⟨dl_law__806, dl_law__807, dl_law__809, dl_law__810, dl_law__811⟩ ?_
  refine lw_argC (k := 4) (a0 := 1) (a4 := 5) hx hb hXs hbl hS1 hl1 rfl rfl hLL (by omega) (by decide) ⟨dl_law__812, dl_law__813, dl_law__815, dl_law__816, dl_law__817⟩ ?_
  refine lw_argC (k := 5) (a0 := 1) (a4 := 5) hx hb hXs hbl hS1 hl1 rfl rfl hLL (by omega) (by decide) ⟨dl_law__818, dl_law__819, dl_law__821, dl_law__822, dl_law__823⟩ ?_
  refine lw_argB (k := 6) (a0 := 1) (a4 := 5) hx hb hXs hbl hS1 hl1 rfl rfl hLL (by omega) (by decide) ⟨dl_law__824, dl_law__825, dl_law__827, dl_law__829, dl_law__830⟩ ?_
  refine lw_argB (k := 7) (a0 := 1) (a4 := 5) hx hb hXs hbl hS1 hl1 rfl rfl hLL (by omega) (by decide) ⟨dl_law__831, dl_law__832, dl_law__834, dl_law__836, dl_law__837⟩ ?_
  refine lw_argB (k := 8) (a0 := 1) (a4 := 5) hx hb hXs hbl hS1 hl1 rfl rfl hLL (by omega) (by decide) ⟨dl_law__838, dl_law__839, dl_law__841, dl_law__843, dl_law__844⟩ ?_
  exact lc_tail (p2 := 845) (vs := [.int (xs (i + 1)), .int (xs (i + 2)), .int (xs (i + 3)), .int (xs (i + 4)), .int (xs (i + 5)), .int (xs (i + 6)), .int (xs (i + 7)), .int (xs (i + 8))]) C ok hMR (by decide) (by decide) (show rx_ML[240]? = some rx_m240 from rfl) ⟨rl_w1735, rl_w1736, rl_w1737⟩ rx_p240 rfl rfl hm hl1 (by omega) (by omega) ⟨dl_law__845, dl_law__848, dl_law__850, dl_law__851, dl_law__854, dl_law__856, dl_law__861, dl_law__863, dl_law__866, dl_law__867, dl_law__868, dl_law__869, dl_law__871, dl_law__872, dl_law__873, dl_law__878⟩ (by decide) kk
theorem lc_ahead {p : Program} {l : Launch} {e : Env} {s : State} {m : MethodId} {args : Array Value} {below : List Frame} {meth : Method} {c : Code} {H : Heap} {locs : List Loc} {cells slots : Nat} {Q : State → Prop} {Z : rx_Z} {ls : Array Slot} {sb L i cB bB : Nat} {xs : Nat → Int32} {X : XS} (C : LW p l s m args c sb L xs Z) (hi : i + 9 ≤ L) (hI : LI Z s cB bB H locs X) (hl : lv_has ls 8 [(0, .ref sb), (1, .ref cB), (2, .ref bB), (3, .ref (bB + 475)), (4, .int (nI i))]) (hrm : cells + 6 ≤ 601024 ∧ slots + 74 ≤ 7293034) (kk : ∀ (H' : Heap) (locs' : List Loc) (ls' : Array Slot) (X' : XS), LI Z s cB bB H' locs' X' → lv_has ls' 8 [(0, .ref sb), (1, .ref cB), (2, .ref bB), (3, .ref (bB + 475)), (4, .int (nI i))] → W p l e room_1 s m args below meth c H' locs' (cells + 6) (slots + 74) Q (F0 m 2623 ls' [])) (hj : JXq 0 Z 131 241 [.int (xs (i + 1)), .int (xs (i + 2))] cB bB X) : W p l e room_1 s m args below meth c H locs cells slots Q (F0 m 881 ls []) := by
  obtain ⟨hx, hb, hml, hown, hts, hXs, hbl, hLL, hl9, hz1, hz2, hbs, hK, hX⟩ := id C
  obtain ⟨o, X', ok, hCL, hMR⟩ := hj
  have hS := hI.S hz1 hz2
  refine lv_aload_n hx hb dl_law__881 rfl (lv_at hl 1 rfl) ?_
  refine lw_argC (k := 1) (a0 := 0) (a4 := 4) hx hb hXs hbl hS hl rfl rfl hLL (by omega) (by decide) ⟨dl_law__882, dl_law__883, dl_law__885, dl_law__886, dl_law__887⟩ ?_
  refine lw_argC (k := 2) (a0 := 0) (a4 := 4) hx hb hXs hbl hS hl rfl rfl hLL (by omega) (by decide) ⟨dl_law__888, dl_law__889, dl_law__891, dl_law__892, dl_law__893⟩ ?_
  refine lv_aload_n hx hb dl_law__894 rfl (lv_at hl 3 rfl) ?_
  refine lc_stat (vs := [.int (xs (i + 1)), .int (xs (i + 2))]) C ok hCL hI (wr_ahead hl9 hbs ok (hI.ob hz1)) ⟨rl_w1018, rl_w0, rl_w1016, rl_w1017⟩ (by decide) (show rx_np yL_ahead 4 by unfold rx_np; decide +kernel) rfl hl.1 dl_law__895 (by decide) hrm (fun H1 locs1 hm => ?_)
  have hS1 := hm.S hz1 hz2
  refine lv_istore (lv' := [(5, .int (cdO 0 o)), (0, .ref sb), (1, .ref cB), (2, .ref bB), (3, .ref (bB + 475)), (4, .int (nI i))]) hx hb dl_law__898 hl (by decide) rfl (fun ls1 hl1 => ?_)
  refine lv_aload_n hx hb dl_law__900 rfl (lv_at hl1 3 rfl) ?_
  refine lw_argC (k := 1) (a0 := 1) (a4 := 5) hx hb hXs hbl hS1 hl1 rfl rfl hLL (by omega) (by decide) ⟨dl_law__901, dl_law__902, dl_law__904, dl_law__905, dl_law__906⟩ ?_
  refine lw_argC (k := 2) (a0 := 1) (a4 := 5) hx hb hXs hbl hS1 hl1 rfl rfl hLL (by omega) (by decide) ⟨dl_law__907, dl_law__908, dl_law__910, dl_law__911, dl_law__912⟩ ?_
  exact lc_tail (p2 := 913) (vs := [.int (xs (i + 1)), .int (xs (i + 2))]) C ok hMR (by decide) (by decide) (show rx_ML[241]? = some rx_m241 from rfl) ⟨rl_w1739, rl_w1740, rl_w1741⟩ rx_p241 rfl rfl hm hl1 (by omega) (by omega) ⟨dl_law__913, dl_law__916, dl_law__918, dl_law__919, dl_law__922, dl_law__924, dl_law__929, dl_law__931, dl_law__934, dl_law__935, dl_law__936, dl_law__937, dl_law__939, dl_law__940, dl_law__941, dl_law__946⟩ (by decide) kk
theorem lc_after {p : Program} {l : Launch} {e : Env} {s : State} {m : MethodId} {args : Array Value} {below : List Frame} {meth : Method} {c : Code} {H : Heap} {locs : List Loc} {cells slots : Nat} {Q : State → Prop} {Z : rx_Z} {ls : Array Slot} {sb L i cB bB : Nat} {xs : Nat → Int32} {X : XS} (C : LW p l s m args c sb L xs Z) (hi : i + 9 ≤ L) (hI : LI Z s cB bB H locs X) (hl : lv_has ls 8 [(0, .ref sb), (1, .ref cB), (2, .ref bB), (3, .ref (bB + 475)), (4, .int (nI i))]) (hrm : cells + 6 ≤ 601024 ∧ slots + 74 ≤ 7293034) (kk : ∀ (H' : Heap) (locs' : List Loc) (ls' : Array Slot) (X' : XS), LI Z s cB bB H' locs' X' → lv_has ls' 8 [(0, .ref sb), (1, .ref cB), (2, .ref bB), (3, .ref (bB + 475)), (4, .int (nI i))] → W p l e room_1 s m args below meth c H' locs' (cells + 6) (slots + 74) Q (F0 m 2623 ls' [])) (hj : JXq 0 Z 132 242 [.int (xs (i + 1))] cB bB X) : W p l e room_1 s m args below meth c H locs cells slots Q (F0 m 949 ls []) := by
  obtain ⟨hx, hb, hml, hown, hts, hXs, hbl, hLL, hl9, hz1, hz2, hbs, hK, hX⟩ := id C
  obtain ⟨o, X', ok, hCL, hMR⟩ := hj
  have hS := hI.S hz1 hz2
  refine lv_aload_n hx hb dl_law__949 rfl (lv_at hl 1 rfl) ?_
  refine lw_argC (k := 1) (a0 := 0) (a4 := 4) hx hb hXs hbl hS hl rfl rfl hLL (by omega) (by decide) ⟨dl_law__950, dl_law__951, dl_law__953, dl_law__954, dl_law__955⟩ ?_
  refine lv_aload_n hx hb dl_law__956 rfl (lv_at hl 3 rfl) ?_
  refine lc_stat (vs := [.int (xs (i + 1))]) C ok hCL hI (wr_after hl9 hbs ok (hI.ob hz1)) ⟨rl_w1030, rl_w0, rl_w1028, rl_w1029⟩ (by decide) (show rx_np yL_after 3 by unfold rx_np; decide +kernel) rfl hl.1 dl_law__957 (by decide) hrm (fun H1 locs1 hm => ?_)
  have hS1 := hm.S hz1 hz2
  refine lv_istore (lv' := [(5, .int (cdO 0 o)), (0, .ref sb), (1, .ref cB), (2, .ref bB), (3, .ref (bB + 475)), (4, .int (nI i))]) hx hb dl_law__960 hl (by decide) rfl (fun ls1 hl1 => ?_)
  refine lv_aload_n hx hb dl_law__962 rfl (lv_at hl1 3 rfl) ?_
  refine lw_argC (k := 1) (a0 := 1) (a4 := 5) hx hb hXs hbl hS1 hl1 rfl rfl hLL (by omega) (by decide) ⟨dl_law__963, dl_law__964, dl_law__966, dl_law__967, dl_law__968⟩ ?_
  exact lc_tail (p2 := 969) (vs := [.int (xs (i + 1))]) C ok hMR (by decide) (by decide) (show rx_ML[242]? = some rx_m242 from rfl) ⟨rl_w1743, rl_w1744, rl_w1745⟩ rx_p242 rfl rfl hm hl1 (by omega) (by omega) ⟨dl_law__969, dl_law__972, dl_law__974, dl_law__975, dl_law__978, dl_law__980, dl_law__985, dl_law__987, dl_law__990, dl_law__991, dl_law__992, dl_law__993, dl_law__995, dl_law__996, dl_law__997, dl_law__1002⟩ (by decide) kk
theorem lc_feint {p : Program} {l : Launch} {e : Env} {s : State} {m : MethodId} {args : Array Value} {below : List Frame} {meth : Method} {c : Code} {H : Heap} {locs : List Loc} {cells slots : Nat} {Q : State → Prop} {Z : rx_Z} {ls : Array Slot} {sb L i cB bB : Nat} {xs : Nat → Int32} {X : XS} (C : LW p l s m args c sb L xs Z) (hi : i + 9 ≤ L) (hI : LI Z s cB bB H locs X) (hl : lv_has ls 8 [(0, .ref sb), (1, .ref cB), (2, .ref bB), (3, .ref (bB + 475)), (4, .int (nI i))]) (hrm : cells + 6 ≤ 601024 ∧ slots + 74 ≤ 7293034) (kk : ∀ (H' : Heap) (locs' : List Loc) (ls' : Array Slot) (X' : XS), LI Z s cB bB H' locs' X' → lv_has ls' 8 [(0, .ref sb), (1, .ref cB), (2, .ref bB), (3, .ref (bB + 475)), (4, .int (nI i))] → W p l e room_1 s m args below meth c H' locs' (cells + 6) (slots + 74) Q (F0 m 2623 ls' [])) (hj : JXq 2 Z 133 244 [.int (xs (i + 1)), .int (xs (i + 2))] cB bB X) : W p l e room_1 s m args below meth c H locs cells slots Q (F0 m 1005 ls []) := by
  obtain ⟨hx, hb, hml, hown, hts, hXs, hbl, hLL, hl9, hz1, hz2, hbs, hK, hX⟩ := id C
  obtain ⟨o, X', ok, hCL, hMR⟩ := hj
  have hS := hI.S hz1 hz2
  refine lv_aload_n hx hb dl_law__1005 rfl (lv_at hl 1 rfl) ?_
  refine lw_argC (k := 1) (a0 := 0) (a4 := 4) hx hb hXs hbl hS hl rfl rfl hLL (by omega) (by decide) ⟨dl_law__1006, dl_law__1007, dl_law__1009, dl_law__1010, dl_law__1011⟩ ?_
  refine lw_argC (k := 2) (a0 := 0) (a4 := 4) hx hb hXs hbl hS hl rfl rfl hLL (by omega) (by decide) ⟨dl_law__1012, dl_law__1013, dl_law__1015, dl_law__1016, dl_law__1017⟩ ?_
  refine lv_aload_n hx hb dl_law__1018 rfl (lv_at hl 3 rfl) ?_
  refine lc_stat (vs := [.int (xs (i + 1)), .int (xs (i + 2))]) C ok hCL hI (wr_feint hl9 hbs ok (hI.ob hz1)) ⟨rl_w1038, rl_w0, rl_w1036, rl_w1037⟩ (by decide) (show rx_np yL_feint 4 by unfold rx_np; decide +kernel) rfl hl.1 dl_law__1019 (by decide) hrm (fun H1 locs1 hm => ?_)
  have hS1 := hm.S hz1 hz2
  refine lv_istore (lv' := [(5, .int (cdO 2 o)), (0, .ref sb), (1, .ref cB), (2, .ref bB), (3, .ref (bB + 475)), (4, .int (nI i))]) hx hb dl_law__1022 hl (by decide) rfl (fun ls1 hl1 => ?_)
  refine lv_aload_n hx hb dl_law__1024 rfl (lv_at hl1 3 rfl) ?_
  refine lw_argC (k := 1) (a0 := 1) (a4 := 5) hx hb hXs hbl hS1 hl1 rfl rfl hLL (by omega) (by decide) ⟨dl_law__1025, dl_law__1026, dl_law__1028, dl_law__1029, dl_law__1030⟩ ?_
  refine lw_argC (k := 2) (a0 := 1) (a4 := 5) hx hb hXs hbl hS1 hl1 rfl rfl hLL (by omega) (by decide) ⟨dl_law__1031, dl_law__1032, dl_law__1034, dl_law__1035, dl_law__1036⟩ ?_
  exact lc_tail (p2 := 1037) (vs := [.int (xs (i + 1)), .int (xs (i + 2))]) C ok hMR (by decide) (by decide) (show rx_ML[244]? = some rx_m244 from rfl) ⟨rl_w1747, rl_w1748, rl_w1749⟩ rx_p244 rfl rfl hm hl1 (by omega) (by omega) ⟨dl_law__1037, dl_law__1040, dl_law__1042, dl_law__1043, dl_law__1046, dl_law__1048, dl_law__1053, dl_law__1055, dl_law__1058, dl_law__1059, dl_law__1060, dl_law__1061, dl_law__1063, dl_law__1064, dl_law__1065, dl_law__1070⟩ (by decide) kk
theorem lc_ring {p : Program} {l : Launch} {e : Env} {s : State} {m : MethodId} {args : Array Value} {below : List Frame} {meth : Method} {c : Code} {H : Heap} {locs : List Loc} {cells slots : Nat} {Q : State → Prop} {Z : rx_Z} {ls : Array Slot} {sb L i cB bB : Nat} {xs : Nat → Int32} {X : XS} (C : LW p l s m args c sb L xs Z) (hi : i + 9 ≤ L) (hI : LI Z s cB bB H locs X) (hl : lv_has ls 8 [(0, .ref sb), (1, .ref cB), (2, .ref bB), (3, .ref (bB + 475)), (4, .int (nI i))]) (hrm : cells + 6 ≤ 601024 ∧ slots + 74 ≤ 7293034) (kk : ∀ (H' : Heap) (locs' : List Loc) (ls' : Array Slot) (X' : XS), LI Z s cB bB H' locs' X' → lv_has ls' 8 [(0, .ref sb), (1, .ref cB), (2, .ref bB), (3, .ref (bB + 475)), (4, .int (nI i))] → W p l e room_1 s m args below meth c H' locs' (cells + 6) (slots + 74) Q (F0 m 2623 ls' [])) (hj : JXq 2 Z 134 245 [.int (xs (i + 1)), .int (xs (i + 2))] cB bB X) : W p l e room_1 s m args below meth c H locs cells slots Q (F0 m 1073 ls []) := by
  obtain ⟨hx, hb, hml, hown, hts, hXs, hbl, hLL, hl9, hz1, hz2, hbs, hK, hX⟩ := id C
  obtain ⟨o, X', ok, hCL, hMR⟩ := hj
  have hS := hI.S hz1 hz2
  refine lv_aload_n hx hb dl_law__1073 rfl (lv_at hl 1 rfl) ?_
  refine lw_argC (k := 1) (a0 := 0) (a4 := 4) hx hb hXs hbl hS hl rfl rfl hLL (by omega) (by decide) ⟨dl_law__1074, dl_law__1075, dl_law__1077, dl_law__1078, dl_law__1079⟩ ?_
  refine lw_argC (k := 2) (a0 := 0) (a4 := 4) hx hb hXs hbl hS hl rfl rfl hLL (by omega) (by decide) ⟨dl_law__1080, dl_law__1081, dl_law__1083, dl_law__1084, dl_law__1085⟩ ?_
  refine lv_aload_n hx hb dl_law__1086 rfl (lv_at hl 3 rfl) ?_
  refine lc_stat (vs := [.int (xs (i + 1)), .int (xs (i + 2))]) C ok hCL hI (wr_ring hl9 hbs ok (hI.ob hz1)) ⟨rl_w1081, rl_w0, rl_w1079, rl_w1080⟩ (by decide) (show rx_np yL_ring 4 by unfold rx_np; decide +kernel) rfl hl.1 dl_law__1087 (by decide) hrm (fun H1 locs1 hm => ?_)
  have hS1 := hm.S hz1 hz2
  refine lv_istore (lv' := [(5, .int (cdO 2 o)), (0, .ref sb), (1, .ref cB), (2, .ref bB), (3, .ref (bB + 475)), (4, .int (nI i))]) hx hb dl_law__1090 hl (by decide) rfl (fun ls1 hl1 => ?_)
  refine lv_aload_n hx hb dl_law__1092 rfl (lv_at hl1 3 rfl) ?_
  refine lw_argC (k := 1) (a0 := 1) (a4 := 5) hx hb hXs hbl hS1 hl1 rfl rfl hLL (by omega) (by decide) ⟨dl_law__1093, dl_law__1094, dl_law__1096, dl_law__1097, dl_law__1098⟩ ?_
  refine lw_argC (k := 2) (a0 := 1) (a4 := 5) hx hb hXs hbl hS1 hl1 rfl rfl hLL (by omega) (by decide) ⟨dl_law__1099, dl_law__1100, dl_law__1102, dl_law__1103, dl_law__1104⟩ ?_
  exact lc_tail (p2 := 1105) (vs := [.int (xs (i + 1)), .int (xs (i + 2))]) C ok hMR (by decide) (by decide) (show rx_ML[245]? = some rx_m245 from rfl) ⟨rl_w1755, rl_w1756, rl_w1757⟩ rx_p245 rfl rfl hm hl1 (by omega) (by omega) ⟨dl_law__1105, dl_law__1108, dl_law__1110, dl_law__1111, dl_law__1114, dl_law__1116, dl_law__1121, dl_law__1123, dl_law__1126, dl_law__1127, dl_law__1128, dl_law__1129, dl_law__1131, dl_law__1132, dl_law__1133, dl_law__1138⟩ (by decide) kk
theorem lc_like {p : Program} {l : Launch} {e : Env} {s : State} {m : MethodId} {args : Array Value} {below : List Frame} {meth : Method} {c : Code} {H : Heap} {locs : List Loc} {cells slots : Nat} {Q : State → Prop} {Z : rx_Z} {ls : Array Slot} {sb L i cB bB : Nat} {xs : Nat → Int32} {X : XS} (C : LW p l s m args c sb L xs Z) (hi : i + 9 ≤ L) (hI : LI Z s cB bB H locs X) (hl : lv_has ls 8 [(0, .ref sb), (1, .ref cB), (2, .ref bB), (3, .ref (bB + 475)), (4, .int (nI i))]) (hrm : cells + 6 ≤ 601024 ∧ slots + 74 ≤ 7293034) (kk : ∀ (H' : Heap) (locs' : List Loc) (ls' : Array Slot) (X' : XS), LI Z s cB bB H' locs' X' → lv_has ls' 8 [(0, .ref sb), (1, .ref cB), (2, .ref bB), (3, .ref (bB + 475)), (4, .int (nI i))] → W p l e room_1 s m args below meth c H' locs' (cells + 6) (slots + 74) Q (F0 m 2623 ls' [])) (hj : JXq 0 Z 135 247 [.int (xs (i + 1))] cB bB X) : W p l e room_1 s m args below meth c H locs cells slots Q (F0 m 1141 ls []) := by
  obtain ⟨hx, hb, hml, hown, hts, hXs, hbl, hLL, hl9, hz1, hz2, hbs, hK, hX⟩ := id C
  obtain ⟨o, X', ok, hCL, hMR⟩ := hj
  have hS := hI.S hz1 hz2
  refine lv_aload_n hx hb dl_law__1141 rfl (lv_at hl 1 rfl) ?_
  refine lw_argC (k := 1) (a0 := 0) (a4 := 4) hx hb hXs hbl hS hl rfl rfl hLL (by omega) (by decide) ⟨dl_law__1142, dl_law__1143, dl_law__1145, dl_law__1146, dl_law__1147⟩ ?_
  refine lv_aload_n hx hb dl_law__1148 rfl (lv_at hl 3 rfl) ?_
  refine lc_stat (vs := [.int (xs (i + 1))]) C ok hCL hI (wr_like hl9 hbs ok (hI.ob hz1)) ⟨rl_w1098, rl_w0, rl_w1096, rl_w1097⟩ (by decide) (show rx_np yL_like 3 by unfold rx_np; decide +kernel) rfl hl.1 dl_law__1149 (by decide) hrm (fun H1 locs1 hm => ?_)
  have hS1 := hm.S hz1 hz2
  refine lv_istore (lv' := [(5, .int (cdO 0 o)), (0, .ref sb), (1, .ref cB), (2, .ref bB), (3, .ref (bB + 475)), (4, .int (nI i))]) hx hb dl_law__1152 hl (by decide) rfl (fun ls1 hl1 => ?_)
  refine lv_aload_n hx hb dl_law__1154 rfl (lv_at hl1 3 rfl) ?_
  refine lw_argC (k := 1) (a0 := 1) (a4 := 5) hx hb hXs hbl hS1 hl1 rfl rfl hLL (by omega) (by decide) ⟨dl_law__1155, dl_law__1156, dl_law__1158, dl_law__1159, dl_law__1160⟩ ?_
  exact lc_tail (p2 := 1161) (vs := [.int (xs (i + 1))]) C ok hMR (by decide) (by decide) (show rx_ML[247]? = some rx_m247 from rfl) ⟨rl_w1762, rl_w1763, rl_w1764⟩ rx_p247 rfl rfl hm hl1 (by omega) (by omega) ⟨dl_law__1161, dl_law__1164, dl_law__1166, dl_law__1167, dl_law__1170, dl_law__1172, dl_law__1177, dl_law__1179, dl_law__1182, dl_law__1183, dl_law__1184, dl_law__1185, dl_law__1187, dl_law__1188, dl_law__1189, dl_law__1194⟩ (by decide) kk
theorem lc_ask {p : Program} {l : Launch} {e : Env} {s : State} {m : MethodId} {args : Array Value} {below : List Frame} {meth : Method} {c : Code} {H : Heap} {locs : List Loc} {cells slots : Nat} {Q : State → Prop} {Z : rx_Z} {ls : Array Slot} {sb L i cB bB : Nat} {xs : Nat → Int32} {X : XS} (C : LW p l s m args c sb L xs Z) (hi : i + 9 ≤ L) (hI : LI Z s cB bB H locs X) (hl : lv_has ls 8 [(0, .ref sb), (1, .ref cB), (2, .ref bB), (3, .ref (bB + 475)), (4, .int (nI i))]) (hrm : cells + 6 ≤ 601024 ∧ slots + 74 ≤ 7293034) (kk : ∀ (H' : Heap) (locs' : List Loc) (ls' : Array Slot) (X' : XS), LI Z s cB bB H' locs' X' → lv_has ls' 8 [(0, .ref sb), (1, .ref cB), (2, .ref bB), (3, .ref (bB + 475)), (4, .int (nI i))] → W p l e room_1 s m args below meth c H' locs' (cells + 6) (slots + 74) Q (F0 m 2623 ls' [])) (hj : JXq 0 Z 136 250 [.int (xs (i + 1))] cB bB X) : W p l e room_1 s m args below meth c H locs cells slots Q (F0 m 1197 ls []) := by
  obtain ⟨hx, hb, hml, hown, hts, hXs, hbl, hLL, hl9, hz1, hz2, hbs, hK, hX⟩ := id C
  obtain ⟨o, X', ok, hCL, hMR⟩ := hj
  have hS := hI.S hz1 hz2
  refine lv_aload_n hx hb dl_law__1197 rfl (lv_at hl 1 rfl) ?_
  refine lw_argC (k := 1) (a0 := 0) (a4 := 4) hx hb hXs hbl hS hl rfl rfl hLL (by omega) (by decide) ⟨dl_law__1198, dl_law__1199, dl_law__1201, dl_law__1202, dl_law__1203⟩ ?_
  refine lv_aload_n hx hb dl_law__1204 rfl (lv_at hl 3 rfl) ?_
  refine lc_stat (vs := [.int (xs (i + 1))]) C ok hCL hI (wr_ask hl9 hbs ok (hI.ob hz1)) ⟨rl_w1124, rl_w0, rl_w1122, rl_w1123⟩ (by decide) (show rx_np yL_ask 3 by unfold rx_np; decide +kernel) rfl hl.1 dl_law__1205 (by decide) hrm (fun H1 locs1 hm => ?_)
  have hS1 := hm.S hz1 hz2
  refine lv_istore (lv' := [(5, .int (cdO 0 o)), (0, .ref sb), (1, .ref cB), (2, .ref bB), (3, .ref (bB + 475)), (4, .int (nI i))]) hx hb dl_law__1208 hl (by decide) rfl (fun ls1 hl1 => ?_)
  refine lv_aload_n hx hb dl_law__1210 rfl (lv_at hl1 3 rfl) ?_
  refine lw_argC (k := 1) (a0 := 1) (a4 := 5) hx hb hXs hbl hS1 hl1 rfl rfl hLL (by omega) (by decide) ⟨dl_law__1211, dl_law__1212, dl_law__1214, dl_law__1215, dl_law__1216⟩ ?_
  exact lc_tail (p2 := 1217) (vs := [.int (xs (i + 1))]) C ok hMR (by decide) (by decide) (show rx_ML[250]? = some rx_m250 from rfl) ⟨rl_w1770, rl_w1771, rl_w1772⟩ rx_p250 rfl rfl hm hl1 (by omega) (by omega) ⟨dl_law__1217, dl_law__1220, dl_law__1222, dl_law__1223, dl_law__1226, dl_law__1228, dl_law__1233, dl_law__1235, dl_law__1238, dl_law__1239, dl_law__1240, dl_law__1241, dl_law__1243, dl_law__1244, dl_law__1245, dl_law__1250⟩ (by decide) kk
theorem lc_pairs {p : Program} {l : Launch} {e : Env} {s : State} {m : MethodId} {args : Array Value} {below : List Frame} {meth : Method} {c : Code} {H : Heap} {locs : List Loc} {cells slots : Nat} {Q : State → Prop} {Z : rx_Z} {ls : Array Slot} {sb L i cB bB : Nat} {xs : Nat → Int32} {X : XS} (C : LW p l s m args c sb L xs Z) (hi : i + 9 ≤ L) (hI : LI Z s cB bB H locs X) (hl : lv_has ls 8 [(0, .ref sb), (1, .ref cB), (2, .ref bB), (3, .ref (bB + 475)), (4, .int (nI i))]) (hrm : cells + 6 ≤ 601024 ∧ slots + 74 ≤ 7293034) (kk : ∀ (H' : Heap) (locs' : List Loc) (ls' : Array Slot) (X' : XS), LI Z s cB bB H' locs' X' → lv_has ls' 8 [(0, .ref sb), (1, .ref cB), (2, .ref bB), (3, .ref (bB + 475)), (4, .int (nI i))] → W p l e room_1 s m args below meth c H' locs' (cells + 6) (slots + 74) Q (F0 m 2623 ls' [])) (hj : JXq 3 Z 137 253 [] cB bB X) : W p l e room_1 s m args below meth c H locs cells slots Q (F0 m 1253 ls []) := by
  obtain ⟨hx, hb, hml, hown, hts, hXs, hbl, hLL, hl9, hz1, hz2, hbs, hK, hX⟩ := id C
  obtain ⟨o, X', ok, hCL, hMR⟩ := hj
  have hS := hI.S hz1 hz2
  refine lv_aload_n hx hb dl_law__1253 rfl (lv_at hl 1 rfl) ?_
  refine lc_cls (vs := []) (rest := []) C ok hCL hI (show rx_ML[137]? = some rx_m137 from rfl) ⟨rl_w381, rl_w382, rl_w383⟩ rx_p137 rfl rfl hl.1 (by decide) dl_law__1254 hrm (fun y H1 locs1 ho hm => ?_)
  have hS1 := hm.S hz1 hz2
  refine lv_aload_n hx hb dl_law__1257 rfl (lv_at hl 2 rfl) ?_
  exact lc_mod (p2 := 1258) (vs := []) C ho hMR (show rx_ML[253]? = some rx_m253 from rfl) ⟨rl_w1782, rl_w1783, rl_w1784⟩ rx_p253 rfl rfl hm hl (by omega) (by omega) ⟨dl_law__1258, dl_law__1261⟩ (by decide) kk
theorem lc_mate {p : Program} {l : Launch} {e : Env} {s : State} {m : MethodId} {args : Array Value} {below : List Frame} {meth : Method} {c : Code} {H : Heap} {locs : List Loc} {cells slots : Nat} {Q : State → Prop} {Z : rx_Z} {ls : Array Slot} {sb L i cB bB : Nat} {xs : Nat → Int32} {X : XS} (C : LW p l s m args c sb L xs Z) (hi : i + 9 ≤ L) (hI : LI Z s cB bB H locs X) (hl : lv_has ls 8 [(0, .ref sb), (1, .ref cB), (2, .ref bB), (3, .ref (bB + 475)), (4, .int (nI i))]) (hrm : cells + 6 ≤ 601024 ∧ slots + 74 ≤ 7293034) (kk : ∀ (H' : Heap) (locs' : List Loc) (ls' : Array Slot) (X' : XS), LI Z s cB bB H' locs' X' → lv_has ls' 8 [(0, .ref sb), (1, .ref cB), (2, .ref bB), (3, .ref (bB + 475)), (4, .int (nI i))] → W p l e room_1 s m args below meth c H' locs' (cells + 6) (slots + 74) Q (F0 m 2623 ls' [])) (hj : JXq 1 Z 138 254 [.int (xs (i + 1))] cB bB X) : W p l e room_1 s m args below meth c H locs cells slots Q (F0 m 1266 ls []) := by
  obtain ⟨hx, hb, hml, hown, hts, hXs, hbl, hLL, hl9, hz1, hz2, hbs, hK, hX⟩ := id C
  obtain ⟨o, X', ok, hCL, hMR⟩ := hj
  have hS := hI.S hz1 hz2
  refine lv_aload_n hx hb dl_law__1266 rfl (lv_at hl 1 rfl) ?_
  refine lw_argC (k := 1) (a0 := 0) (a4 := 4) hx hb hXs hbl hS hl rfl rfl hLL (by omega) (by decide) ⟨dl_law__1267, dl_law__1268, dl_law__1270, dl_law__1271, dl_law__1272⟩ ?_
  refine lv_aload_n hx hb dl_law__1273 rfl (lv_at hl 3 rfl) ?_
  refine lc_stat (vs := [.int (xs (i + 1))]) C ok hCL hI (wr_mate hl9 hbs ok (hI.ob hz1)) ⟨rl_w1139, rl_w0, rl_w1137, rl_w1138⟩ (by decide) (show rx_np yL_mate 3 by unfold rx_np; decide +kernel) rfl hl.1 dl_law__1274 (by decide) hrm (fun H1 locs1 hm => ?_)
  have hS1 := hm.S hz1 hz2
  refine lv_istore (lv' := [(5, .int (cdO 1 o)), (0, .ref sb), (1, .ref cB), (2, .ref bB), (3, .ref (bB + 475)), (4, .int (nI i))]) hx hb dl_law__1277 hl (by decide) rfl (fun ls1 hl1 => ?_)
  refine lv_aload_n hx hb dl_law__1279 rfl (lv_at hl1 3 rfl) ?_
  refine lw_argC (k := 1) (a0 := 1) (a4 := 5) hx hb hXs hbl hS1 hl1 rfl rfl hLL (by omega) (by decide) ⟨dl_law__1280, dl_law__1281, dl_law__1283, dl_law__1284, dl_law__1285⟩ ?_
  exact lc_tail (p2 := 1286) (vs := [.int (xs (i + 1))]) C ok hMR (by decide) (by decide) (show rx_ML[254]? = some rx_m254 from rfl) ⟨rl_w1794, rl_w1795, rl_w1796⟩ rx_p254 rfl rfl hm hl1 (by omega) (by omega) ⟨dl_law__1286, dl_law__1289, dl_law__1291, dl_law__1292, dl_law__1295, dl_law__1297, dl_law__1302, dl_law__1304, dl_law__1307, dl_law__1308, dl_law__1309, dl_law__1310, dl_law__1312, dl_law__1313, dl_law__1314, dl_law__1319⟩ (by decide) kk
theorem lc_row {p : Program} {l : Launch} {e : Env} {s : State} {m : MethodId} {args : Array Value} {below : List Frame} {meth : Method} {c : Code} {H : Heap} {locs : List Loc} {cells slots : Nat} {Q : State → Prop} {Z : rx_Z} {ls : Array Slot} {sb L i cB bB : Nat} {xs : Nat → Int32} {X : XS} (C : LW p l s m args c sb L xs Z) (hi : i + 9 ≤ L) (hI : LI Z s cB bB H locs X) (hl : lv_has ls 8 [(0, .ref sb), (1, .ref cB), (2, .ref bB), (3, .ref (bB + 475)), (4, .int (nI i))]) (hrm : cells + 6 ≤ 601024 ∧ slots + 74 ≤ 7293034) (kk : ∀ (H' : Heap) (locs' : List Loc) (ls' : Array Slot) (X' : XS), LI Z s cB bB H' locs' X' → lv_has ls' 8 [(0, .ref sb), (1, .ref cB), (2, .ref bB), (3, .ref (bB + 475)), (4, .int (nI i))] → W p l e room_1 s m args below meth c H' locs' (cells + 6) (slots + 74) Q (F0 m 2623 ls' [])) (hj : JXq 0 Z 139 257 [.int (xs (i + 1))] cB bB X) : W p l e room_1 s m args below meth c H locs cells slots Q (F0 m 1322 ls []) := by
  obtain ⟨hx, hb, hml, hown, hts, hXs, hbl, hLL, hl9, hz1, hz2, hbs, hK, hX⟩ := id C
  obtain ⟨o, X', ok, hCL, hMR⟩ := hj
  have hS := hI.S hz1 hz2
  refine lv_aload_n hx hb dl_law__1322 rfl (lv_at hl 1 rfl) ?_
  refine lw_argC (k := 1) (a0 := 0) (a4 := 4) hx hb hXs hbl hS hl rfl rfl hLL (by omega) (by decide) ⟨dl_law__1323, dl_law__1324, dl_law__1326, dl_law__1327, dl_law__1328⟩ ?_
  refine lv_aload_n hx hb dl_law__1329 rfl (lv_at hl 3 rfl) ?_
  refine lc_stat (vs := [.int (xs (i + 1))]) C ok hCL hI (wr_row hl9 hbs ok (hI.ob hz1)) ⟨rl_w1146, rl_w0, rl_w1144, rl_w1145⟩ (by decide) (show rx_np yL_row 3 by unfold rx_np; decide +kernel) rfl hl.1 dl_law__1330 (by decide) hrm (fun H1 locs1 hm => ?_)
  have hS1 := hm.S hz1 hz2
  refine lv_istore (lv' := [(5, .int (cdO 0 o)), (0, .ref sb), (1, .ref cB), (2, .ref bB), (3, .ref (bB + 475)), (4, .int (nI i))]) hx hb dl_law__1333 hl (by decide) rfl (fun ls1 hl1 => ?_)
  refine lv_aload_n hx hb dl_law__1335 rfl (lv_at hl1 3 rfl) ?_
  refine lw_argC (k := 1) (a0 := 1) (a4 := 5) hx hb hXs hbl hS1 hl1 rfl rfl hLL (by omega) (by decide) ⟨dl_law__1336, dl_law__1337, dl_law__1339, dl_law__1340, dl_law__1341⟩ ?_
  exact lc_tail (p2 := 1342) (vs := [.int (xs (i + 1))]) C ok hMR (by decide) (by decide) (show rx_ML[257]? = some rx_m257 from rfl) ⟨rl_w1798, rl_w1799, rl_w1800⟩ rx_p257 rfl rfl hm hl1 (by omega) (by omega) ⟨dl_law__1342, dl_law__1345, dl_law__1347, dl_law__1348, dl_law__1351, dl_law__1353, dl_law__1358, dl_law__1360, dl_law__1363, dl_law__1364, dl_law__1365, dl_law__1366, dl_law__1368, dl_law__1369, dl_law__1370, dl_law__1375⟩ (by decide) kk
theorem lc_rowed {p : Program} {l : Launch} {e : Env} {s : State} {m : MethodId} {args : Array Value} {below : List Frame} {meth : Method} {c : Code} {H : Heap} {locs : List Loc} {cells slots : Nat} {Q : State → Prop} {Z : rx_Z} {ls : Array Slot} {sb L i cB bB : Nat} {xs : Nat → Int32} {X : XS} (C : LW p l s m args c sb L xs Z) (hi : i + 9 ≤ L) (hI : LI Z s cB bB H locs X) (hl : lv_has ls 8 [(0, .ref sb), (1, .ref cB), (2, .ref bB), (3, .ref (bB + 475)), (4, .int (nI i))]) (hrm : cells + 6 ≤ 601024 ∧ slots + 74 ≤ 7293034) (kk : ∀ (H' : Heap) (locs' : List Loc) (ls' : Array Slot) (X' : XS), LI Z s cB bB H' locs' X' → lv_has ls' 8 [(0, .ref sb), (1, .ref cB), (2, .ref bB), (3, .ref (bB + 475)), (4, .int (nI i))] → W p l e room_1 s m args below meth c H' locs' (cells + 6) (slots + 74) Q (F0 m 2623 ls' [])) (hj : JXq 0 Z 140 258 [.int (xs (i + 1)), .int (xs (i + 2))] cB bB X) : W p l e room_1 s m args below meth c H locs cells slots Q (F0 m 1378 ls []) := by
  obtain ⟨hx, hb, hml, hown, hts, hXs, hbl, hLL, hl9, hz1, hz2, hbs, hK, hX⟩ := id C
  obtain ⟨o, X', ok, hCL, hMR⟩ := hj
  have hS := hI.S hz1 hz2
  refine lv_aload_n hx hb dl_law__1378 rfl (lv_at hl 1 rfl) ?_
  refine lw_argC (k := 1) (a0 := 0) (a4 := 4) hx hb hXs hbl hS hl rfl rfl hLL (by omega) (by decide) ⟨dl_law__1379, dl_law__1380, dl_law__1382, dl_law__1383, dl_law__1384⟩ ?_
  refine lw_argC (k := 2) (a0 := 0) (a4 := 4) hx hb hXs hbl hS hl rfl rfl hLL (by omega) (by decide) ⟨dl_law__1385, dl_law__1386, dl_law__1388, dl_law__1389, dl_law__1390⟩ ?_
  refine lv_aload_n hx hb dl_law__1391 rfl (lv_at hl 3 rfl) ?_
  refine lc_stat (vs := [.int (xs (i + 1)), .int (xs (i + 2))]) C ok hCL hI (wr_rowed hl9 hbs ok (hI.ob hz1)) ⟨rl_w1165, rl_w0, rl_w1163, rl_w1164⟩ (by decide) (show rx_np yL_rowed 4 by unfold rx_np; decide +kernel) rfl hl.1 dl_law__1392 (by decide) hrm (fun H1 locs1 hm => ?_)
  have hS1 := hm.S hz1 hz2
  refine lv_istore (lv' := [(5, .int (cdO 0 o)), (0, .ref sb), (1, .ref cB), (2, .ref bB), (3, .ref (bB + 475)), (4, .int (nI i))]) hx hb dl_law__1395 hl (by decide) rfl (fun ls1 hl1 => ?_)
  refine lv_aload_n hx hb dl_law__1397 rfl (lv_at hl1 3 rfl) ?_
  refine lw_argC (k := 1) (a0 := 1) (a4 := 5) hx hb hXs hbl hS1 hl1 rfl rfl hLL (by omega) (by decide) ⟨dl_law__1398, dl_law__1399, dl_law__1401, dl_law__1402, dl_law__1403⟩ ?_
  refine lw_argC (k := 2) (a0 := 1) (a4 := 5) hx hb hXs hbl hS1 hl1 rfl rfl hLL (by omega) (by decide) ⟨dl_law__1404, dl_law__1405, dl_law__1407, dl_law__1408, dl_law__1409⟩ ?_
  exact lc_tail (p2 := 1410) (vs := [.int (xs (i + 1)), .int (xs (i + 2))]) C ok hMR (by decide) (by decide) (show rx_ML[258]? = some rx_m258 from rfl) ⟨rl_w1810, rl_w1811, rl_w1812⟩ rx_p258 rfl rfl hm hl1 (by omega) (by omega) ⟨dl_law__1410, dl_law__1413, dl_law__1415, dl_law__1416, dl_law__1419, dl_law__1421, dl_law__1426, dl_law__1428, dl_law__1431, dl_law__1432, dl_law__1433, dl_law__1434, dl_law__1436, dl_law__1437, dl_law__1438, dl_law__1443⟩ (by decide) kk
theorem lc_child {p : Program} {l : Launch} {e : Env} {s : State} {m : MethodId} {args : Array Value} {below : List Frame} {meth : Method} {c : Code} {H : Heap} {locs : List Loc} {cells slots : Nat} {Q : State → Prop} {Z : rx_Z} {ls : Array Slot} {sb L i cB bB : Nat} {xs : Nat → Int32} {X : XS} (C : LW p l s m args c sb L xs Z) (hi : i + 9 ≤ L) (hI : LI Z s cB bB H locs X) (hl : lv_has ls 8 [(0, .ref sb), (1, .ref cB), (2, .ref bB), (3, .ref (bB + 475)), (4, .int (nI i))]) (hrm : cells + 6 ≤ 601024 ∧ slots + 74 ≤ 7293034) (kk : ∀ (H' : Heap) (locs' : List Loc) (ls' : Array Slot) (X' : XS), LI Z s cB bB H' locs' X' → lv_has ls' 8 [(0, .ref sb), (1, .ref cB), (2, .ref bB), (3, .ref (bB + 475)), (4, .int (nI i))] → W p l e room_1 s m args below meth c H' locs' (cells + 6) (slots + 74) Q (F0 m 2623 ls' [])) (hj : JXq 0 Z 141 259 [.int (xs (i + 1))] cB bB X) : W p l e room_1 s m args below meth c H locs cells slots Q (F0 m 1446 ls []) := by
  obtain ⟨hx, hb, hml, hown, hts, hXs, hbl, hLL, hl9, hz1, hz2, hbs, hK, hX⟩ := id C
  obtain ⟨o, X', ok, hCL, hMR⟩ := hj
  have hS := hI.S hz1 hz2
  refine lv_aload_n hx hb dl_law__1446 rfl (lv_at hl 1 rfl) ?_
  refine lw_argC (k := 1) (a0 := 0) (a4 := 4) hx hb hXs hbl hS hl rfl rfl hLL (by omega) (by decide) ⟨dl_law__1447, dl_law__1448, dl_law__1450, dl_law__1451, dl_law__1452⟩ ?_
  refine lv_aload_n hx hb dl_law__1453 rfl (lv_at hl 3 rfl) ?_
  refine lc_stat (vs := [.int (xs (i + 1))]) C ok hCL hI (wr_child hl9 hbs ok (hI.ob hz1)) ⟨rl_w1172, rl_w0, rl_w1170, rl_w1171⟩ (by decide) (show rx_np yL_child 3 by unfold rx_np; decide +kernel) rfl hl.1 dl_law__1454 (by decide) hrm (fun H1 locs1 hm => ?_)
  have hS1 := hm.S hz1 hz2
  refine lv_istore (lv' := [(5, .int (cdO 0 o)), (0, .ref sb), (1, .ref cB), (2, .ref bB), (3, .ref (bB + 475)), (4, .int (nI i))]) hx hb dl_law__1457 hl (by decide) rfl (fun ls1 hl1 => ?_)
  refine lv_aload_n hx hb dl_law__1459 rfl (lv_at hl1 3 rfl) ?_
  refine lw_argC (k := 1) (a0 := 1) (a4 := 5) hx hb hXs hbl hS1 hl1 rfl rfl hLL (by omega) (by decide) ⟨dl_law__1460, dl_law__1461, dl_law__1463, dl_law__1464, dl_law__1465⟩ ?_
  exact lc_tail (p2 := 1466) (vs := [.int (xs (i + 1))]) C ok hMR (by decide) (by decide) (show rx_ML[259]? = some rx_m259 from rfl) ⟨rl_w1814, rl_w1815, rl_w1816⟩ rx_p259 rfl rfl hm hl1 (by omega) (by omega) ⟨dl_law__1466, dl_law__1469, dl_law__1471, dl_law__1472, dl_law__1475, dl_law__1477, dl_law__1482, dl_law__1484, dl_law__1487, dl_law__1488, dl_law__1489, dl_law__1490, dl_law__1492, dl_law__1493, dl_law__1494, dl_law__1499⟩ (by decide) kk
theorem lc_middling {p : Program} {l : Launch} {e : Env} {s : State} {m : MethodId} {args : Array Value} {below : List Frame} {meth : Method} {c : Code} {H : Heap} {locs : List Loc} {cells slots : Nat} {Q : State → Prop} {Z : rx_Z} {ls : Array Slot} {sb L i cB bB : Nat} {xs : Nat → Int32} {X : XS} (C : LW p l s m args c sb L xs Z) (hi : i + 9 ≤ L) (hI : LI Z s cB bB H locs X) (hl : lv_has ls 8 [(0, .ref sb), (1, .ref cB), (2, .ref bB), (3, .ref (bB + 475)), (4, .int (nI i))]) (hrm : cells + 6 ≤ 601024 ∧ slots + 74 ≤ 7293034) (kk : ∀ (H' : Heap) (locs' : List Loc) (ls' : Array Slot) (X' : XS), LI Z s cB bB H' locs' X' → lv_has ls' 8 [(0, .ref sb), (1, .ref cB), (2, .ref bB), (3, .ref (bB + 475)), (4, .int (nI i))] → W p l e room_1 s m args below meth c H' locs' (cells + 6) (slots + 74) Q (F0 m 2623 ls' [])) (hj : JXq 0 Z 142 260 [.int (xs (i + 1))] cB bB X) : W p l e room_1 s m args below meth c H locs cells slots Q (F0 m 1502 ls []) := by
  obtain ⟨hx, hb, hml, hown, hts, hXs, hbl, hLL, hl9, hz1, hz2, hbs, hK, hX⟩ := id C
  obtain ⟨o, X', ok, hCL, hMR⟩ := hj
  have hS := hI.S hz1 hz2
  refine lv_aload_n hx hb dl_law__1502 rfl (lv_at hl 1 rfl) ?_
  refine lw_argC (k := 1) (a0 := 0) (a4 := 4) hx hb hXs hbl hS hl rfl rfl hLL (by omega) (by decide) ⟨dl_law__1503, dl_law__1504, dl_law__1506, dl_law__1507, dl_law__1508⟩ ?_
  refine lv_aload_n hx hb dl_law__1509 rfl (lv_at hl 3 rfl) ?_
  refine lc_stat (vs := [.int (xs (i + 1))]) C ok hCL hI (wr_middling hl9 hbs ok (hI.ob hz1)) ⟨rl_w1186, rl_w0, rl_w1184, rl_w1185⟩ (by decide) (show rx_np yL_middling 3 by unfold rx_np; decide +kernel) rfl hl.1 dl_law__1510 (by decide) hrm (fun H1 locs1 hm => ?_)
  have hS1 := hm.S hz1 hz2
  refine lv_istore (lv' := [(5, .int (cdO 0 o)), (0, .ref sb), (1, .ref cB), (2, .ref bB), (3, .ref (bB + 475)), (4, .int (nI i))]) hx hb dl_law__1513 hl (by decide) rfl (fun ls1 hl1 => ?_)
  refine lv_aload_n hx hb dl_law__1515 rfl (lv_at hl1 3 rfl) ?_
  refine lw_argC (k := 1) (a0 := 1) (a4 := 5) hx hb hXs hbl hS1 hl1 rfl rfl hLL (by omega) (by decide) ⟨dl_law__1516, dl_law__1517, dl_law__1519, dl_law__1520, dl_law__1521⟩ ?_
  exact lc_tail (p2 := 1522) (vs := [.int (xs (i + 1))]) C ok hMR (by decide) (by decide) (show rx_ML[260]? = some rx_m260 from rfl) ⟨rl_w1818, rl_w1819, rl_w1820⟩ rx_p260 rfl rfl hm hl1 (by omega) (by omega) ⟨dl_law__1522, dl_law__1525, dl_law__1527, dl_law__1528, dl_law__1531, dl_law__1533, dl_law__1538, dl_law__1540, dl_law__1543, dl_law__1544, dl_law__1545, dl_law__1546, dl_law__1548, dl_law__1549, dl_law__1550, dl_law__1555⟩ (by decide) kk
theorem lc_chance {p : Program} {l : Launch} {e : Env} {s : State} {m : MethodId} {args : Array Value} {below : List Frame} {meth : Method} {c : Code} {H : Heap} {locs : List Loc} {cells slots : Nat} {Q : State → Prop} {Z : rx_Z} {ls : Array Slot} {sb L i cB bB : Nat} {xs : Nat → Int32} {X : XS} (C : LW p l s m args c sb L xs Z) (hi : i + 9 ≤ L) (hI : LI Z s cB bB H locs X) (hl : lv_has ls 8 [(0, .ref sb), (1, .ref cB), (2, .ref bB), (3, .ref (bB + 475)), (4, .int (nI i))]) (hrm : cells + 6 ≤ 601024 ∧ slots + 74 ≤ 7293034) (kk : ∀ (H' : Heap) (locs' : List Loc) (ls' : Array Slot) (X' : XS), LI Z s cB bB H' locs' X' → lv_has ls' 8 [(0, .ref sb), (1, .ref cB), (2, .ref bB), (3, .ref (bB + 475)), (4, .int (nI i))] → W p l e room_1 s m args below meth c H' locs' (cells + 6) (slots + 74) Q (F0 m 2623 ls' [])) (hj : JXq 4 Z 143 261 [.int (xs (i + 1)), .int (xs (i + 2)), .int (xs (i + 3)), .int (xs (i + 4))] cB bB X) : W p l e room_1 s m args below meth c H locs cells slots Q (F0 m 1558 ls []) := by
  obtain ⟨hx, hb, hml, hown, hts, hXs, hbl, hLL, hl9, hz1, hz2, hbs, hK, hX⟩ := id C
  obtain ⟨o, X', ok, hCL, hMR⟩ := hj
  have hS := hI.S hz1 hz2
  refine lv_aload_n hx hb dl_law__1558 rfl (lv_at hl 1 rfl) ?_
  refine lw_argC (k := 1) (a0 := 0) (a4 := 4) hx hb hXs hbl hS hl rfl rfl hLL (by omega) (by decide) ⟨dl_law__1559, dl_law__1560, dl_law__1562, dl_law__1563, dl_law__1564⟩ ?_
  refine lw_argC (k := 2) (a0 := 0) (a4 := 4) hx hb hXs hbl hS hl rfl rfl hLL (by omega) (by decide) ⟨dl_law__1565, dl_law__1566, dl_law__1568, dl_law__1569, dl_law__1570⟩ ?_
  refine lw_argC (k := 3) (a0 := 0) (a4 := 4) hx hb hXs hbl hS hl rfl rfl hLL (by omega) (by decide) ⟨dl_law__1571, dl_law__1572, dl_law__1574, dl_law__1575, dl_law__1576⟩ ?_
  refine lw_argC (k := 4) (a0 := 0) (a4 := 4) hx hb hXs hbl hS hl rfl rfl hLL (by omega) (by decide) ⟨dl_law__1577, dl_law__1578, dl_law__1580, dl_law__1581, dl_law__1582⟩ ?_
  refine lv_aload_n hx hb dl_law__1583 rfl (lv_at hl 3 rfl) ?_
  refine lc_stat (vs := [.int (xs (i + 1)), .int (xs (i + 2)), .int (xs (i + 3)), .int (xs (i + 4))]) C ok hCL hI (wr_chance hl9 hbs ok (hI.ob hz1)) ⟨rl_w1194, rl_w0, rl_w1192, rl_w1193⟩ (by decide) (show rx_np yL_chance 6 by unfold rx_np; decide +kernel) rfl hl.1 dl_law__1584 (by decide) hrm (fun H1 locs1 hm => ?_)
  have hS1 := hm.S hz1 hz2
  refine lv_istore (lv' := [(5, .int (cdO 4 o)), (0, .ref sb), (1, .ref cB), (2, .ref bB), (3, .ref (bB + 475)), (4, .int (nI i))]) hx hb dl_law__1587 hl (by decide) rfl (fun ls1 hl1 => ?_)
  refine lv_aload_n hx hb dl_law__1589 rfl (lv_at hl1 3 rfl) ?_
  refine lw_argC (k := 1) (a0 := 1) (a4 := 5) hx hb hXs hbl hS1 hl1 rfl rfl hLL (by omega) (by decide) ⟨dl_law__1590, dl_law__1591, dl_law__1593, dl_law__1594, dl_law__1595⟩ ?_
  refine lw_argC (k := 2) (a0 := 1) (a4 := 5) hx hb hXs hbl hS1 hl1 rfl rfl hLL (by omega) (by decide) ⟨dl_law__1596, dl_law__1597, dl_law__1599, dl_law__1600, dl_law__1601⟩ ?_
  refine lw_argC (k := 3) (a0 := 1) (a4 := 5) hx hb hXs hbl hS1 hl1 rfl rfl hLL (by omega) (by decide) ⟨dl_law__1602, dl_law__1603, dl_law__1605, dl_law__1606, dl_law__1607⟩ ?_
  refine lw_argC (k := 4) (a0 := 1) (a4 := 5) hx hb hXs hbl hS1 hl1 rfl rfl hLL (by omega) (by decide) ⟨dl_law__1608, dl_law__1609, dl_law__1611, dl_law__1612, dl_law__1613⟩ ?_
  exact lc_tailL (p2 := 1614) (vs := [.int (xs (i + 1)), .int (xs (i + 2)), .int (xs (i + 3)), .int (xs (i + 4))]) C ok hMR (show rx_ML[261]? = some rx_m261 from rfl) ⟨rl_w1822, rl_w1823, rl_w1824⟩ rx_p261 rfl rfl hm hl1 (by omega) (by omega) ⟨dl_law__1614, dl_law__1617, dl_law__1619, dl_law__1620, dl_law__1623, dl_law__1625, dl_law__1630, dl_law__1632, dl_law__1635, dl_law__1636, dl_law__1637, dl_law__1638, dl_law__1640, dl_law__1641, dl_law__1646⟩ (by decide) kk
theorem lc_feigning {p : Program} {l : Launch} {e : Env} {s : State} {m : MethodId} {args : Array Value} {below : List Frame} {meth : Method} {c : Code} {H : Heap} {locs : List Loc} {cells slots : Nat} {Q : State → Prop} {Z : rx_Z} {ls : Array Slot} {sb L i cB bB : Nat} {xs : Nat → Int32} {X : XS} (C : LW p l s m args c sb L xs Z) (hi : i + 9 ≤ L) (hI : LI Z s cB bB H locs X) (hl : lv_has ls 8 [(0, .ref sb), (1, .ref cB), (2, .ref bB), (3, .ref (bB + 475)), (4, .int (nI i))]) (hrm : cells + 6 ≤ 601024 ∧ slots + 74 ≤ 7293034) (kk : ∀ (H' : Heap) (locs' : List Loc) (ls' : Array Slot) (X' : XS), LI Z s cB bB H' locs' X' → lv_has ls' 8 [(0, .ref sb), (1, .ref cB), (2, .ref bB), (3, .ref (bB + 475)), (4, .int (nI i))] → W p l e room_1 s m args below meth c H' locs' (cells + 6) (slots + 74) Q (F0 m 2623 ls' [])) (hj : JXq 0 Z 144 264 [.int (xs (i + 1)), .int (xs (i + 2)), .int (xs (i + 3))] cB bB X) : W p l e room_1 s m args below meth c H locs cells slots Q (F0 m 1649 ls []) := by
  obtain ⟨hx, hb, hml, hown, hts, hXs, hbl, hLL, hl9, hz1, hz2, hbs, hK, hX⟩ := id C
  obtain ⟨o, X', ok, hCL, hMR⟩ := hj
  have hS := hI.S hz1 hz2
  refine lv_aload_n hx hb dl_law__1649 rfl (lv_at hl 1 rfl) ?_
  refine lw_argC (k := 1) (a0 := 0) (a4 := 4) hx hb hXs hbl hS hl rfl rfl hLL (by omega) (by decide) ⟨dl_law__1650, dl_law__1651, dl_law__1653, dl_law__1654, dl_law__1655⟩ ?_
  refine lw_argC (k := 2) (a0 := 0) (a4 := 4) hx hb hXs hbl hS hl rfl rfl hLL (by omega) (by decide) ⟨dl_law__1656, dl_law__1657, dl_law__1659, dl_law__1660, dl_law__1661⟩ ?_
  refine lw_argC (k := 3) (a0 := 0) (a4 := 4) hx hb hXs hbl hS hl rfl rfl hLL (by omega) (by decide) ⟨dl_law__1662, dl_law__1663, dl_law__1665, dl_law__1666, dl_law__1667⟩ ?_
  refine lv_aload_n hx hb dl_law__1668 rfl (lv_at hl 3 rfl) ?_
  refine lc_stat (vs := [.int (xs (i + 1)), .int (xs (i + 2)), .int (xs (i + 3))]) C ok hCL hI (wr_feigning hl9 hbs ok (hI.ob hz1)) ⟨rl_w1211, rl_w0, rl_w1209, rl_w1210⟩ (by decide) (show rx_np yL_feigning 5 by unfold rx_np; decide +kernel) rfl hl.1 dl_law__1669 (by decide) hrm (fun H1 locs1 hm => ?_)
  have hS1 := hm.S hz1 hz2
  refine lv_istore (lv' := [(5, .int (cdO 0 o)), (0, .ref sb), (1, .ref cB), (2, .ref bB), (3, .ref (bB + 475)), (4, .int (nI i))]) hx hb dl_law__1672 hl (by decide) rfl (fun ls1 hl1 => ?_)
  refine lv_aload_n hx hb dl_law__1674 rfl (lv_at hl1 3 rfl) ?_
  refine lw_argC (k := 1) (a0 := 1) (a4 := 5) hx hb hXs hbl hS1 hl1 rfl rfl hLL (by omega) (by decide) ⟨dl_law__1675, dl_law__1676, dl_law__1678, dl_law__1679, dl_law__1680⟩ ?_
  refine lw_argC (k := 2) (a0 := 1) (a4 := 5) hx hb hXs hbl hS1 hl1 rfl rfl hLL (by omega) (by decide) ⟨dl_law__1681, dl_law__1682, dl_law__1684, dl_law__1685, dl_law__1686⟩ ?_
  refine lw_argC (k := 3) (a0 := 1) (a4 := 5) hx hb hXs hbl hS1 hl1 rfl rfl hLL (by omega) (by decide) ⟨dl_law__1687, dl_law__1688, dl_law__1690, dl_law__1691, dl_law__1692⟩ ?_
  exact lc_tail (p2 := 1693) (vs := [.int (xs (i + 1)), .int (xs (i + 2)), .int (xs (i + 3))]) C ok hMR (by decide) (by decide) (show rx_ML[264]? = some rx_m264 from rfl) ⟨rl_w1826, rl_w1827, rl_w1828⟩ rx_p264 rfl rfl hm hl1 (by omega) (by omega) ⟨dl_law__1693, dl_law__1696, dl_law__1698, dl_law__1699, dl_law__1702, dl_law__1704, dl_law__1709, dl_law__1711, dl_law__1714, dl_law__1715, dl_law__1716, dl_law__1717, dl_law__1719, dl_law__1720, dl_law__1721, dl_law__1726⟩ (by decide) kk
theorem lc_land {p : Program} {l : Launch} {e : Env} {s : State} {m : MethodId} {args : Array Value} {below : List Frame} {meth : Method} {c : Code} {H : Heap} {locs : List Loc} {cells slots : Nat} {Q : State → Prop} {Z : rx_Z} {ls : Array Slot} {sb L i cB bB : Nat} {xs : Nat → Int32} {X : XS} (C : LW p l s m args c sb L xs Z) (hi : i + 9 ≤ L) (hI : LI Z s cB bB H locs X) (hl : lv_has ls 8 [(0, .ref sb), (1, .ref cB), (2, .ref bB), (3, .ref (bB + 475)), (4, .int (nI i))]) (hrm : cells + 6 ≤ 601024 ∧ slots + 74 ≤ 7293034) (kk : ∀ (H' : Heap) (locs' : List Loc) (ls' : Array Slot) (X' : XS), LI Z s cB bB H' locs' X' → lv_has ls' 8 [(0, .ref sb), (1, .ref cB), (2, .ref bB), (3, .ref (bB + 475)), (4, .int (nI i))] → W p l e room_1 s m args below meth c H' locs' (cells + 6) (slots + 74) Q (F0 m 2623 ls' [])) (hj : JXq 2 Z 145 267 [.int (xs (i + 1)), .int (xs (i + 2)), .int (xs (i + 3))] cB bB X) : W p l e room_1 s m args below meth c H locs cells slots Q (F0 m 1729 ls []) := by
  obtain ⟨hx, hb, hml, hown, hts, hXs, hbl, hLL, hl9, hz1, hz2, hbs, hK, hX⟩ := id C
  obtain ⟨o, X', ok, hCL, hMR⟩ := hj
  have hS := hI.S hz1 hz2
  refine lv_aload_n hx hb dl_law__1729 rfl (lv_at hl 1 rfl) ?_
  refine lw_argC (k := 1) (a0 := 0) (a4 := 4) hx hb hXs hbl hS hl rfl rfl hLL (by omega) (by decide) ⟨dl_law__1730, dl_law__1731, dl_law__1733, dl_law__1734, dl_law__1735⟩ ?_
  refine lw_argC (k := 2) (a0 := 0) (a4 := 4) hx hb hXs hbl hS hl rfl rfl hLL (by omega) (by decide) ⟨dl_law__1736, dl_law__1737, dl_law__1739, dl_law__1740, dl_law__1741⟩ ?_
  refine lw_argC (k := 3) (a0 := 0) (a4 := 4) hx hb hXs hbl hS hl rfl rfl hLL (by omega) (by decide) ⟨dl_law__1742, dl_law__1743, dl_law__1745, dl_law__1746, dl_law__1747⟩ ?_
  refine lv_aload_n hx hb dl_law__1748 rfl (lv_at hl 3 rfl) ?_
  refine lc_stat (vs := [.int (xs (i + 1)), .int (xs (i + 2)), .int (xs (i + 3))]) C ok hCL hI (wr_land hl9 hbs ok (hI.ob hz1)) ⟨rl_w1221, rl_w0, rl_w1219, rl_w1220⟩ (by decide) (show rx_np yL_land 5 by unfold rx_np; decide +kernel) rfl hl.1 dl_law__1749 (by decide) hrm (fun H1 locs1 hm => ?_)
  have hS1 := hm.S hz1 hz2
  refine lv_istore (lv' := [(5, .int (cdO 2 o)), (0, .ref sb), (1, .ref cB), (2, .ref bB), (3, .ref (bB + 475)), (4, .int (nI i))]) hx hb dl_law__1752 hl (by decide) rfl (fun ls1 hl1 => ?_)
  refine lv_aload_n hx hb dl_law__1754 rfl (lv_at hl1 3 rfl) ?_
  refine lw_argC (k := 1) (a0 := 1) (a4 := 5) hx hb hXs hbl hS1 hl1 rfl rfl hLL (by omega) (by decide) ⟨dl_law__1755, dl_law__1756, dl_law__1758, dl_law__1759, dl_law__1760⟩ ?_
  refine lw_argC (k := 2) (a0 := 1) (a4 := 5) hx hb hXs hbl hS1 hl1 rfl rfl hLL (by omega) (by decide) ⟨dl_law__1761, dl_law__1762, dl_law__1764, dl_law__1765, dl_law__1766⟩ ?_
  refine lw_argC (k := 3) (a0 := 1) (a4 := 5) hx hb hXs hbl hS1 hl1 rfl rfl hLL (by omega) (by decide) ⟨dl_law__1767, dl_law__1768, dl_law__1770, dl_law__1771, dl_law__1772⟩ ?_
  exact lc_tail (p2 := 1773) (vs := [.int (xs (i + 1)), .int (xs (i + 2)), .int (xs (i + 3))]) C ok hMR (by decide) (by decide) (show rx_ML[267]? = some rx_m267 from rfl) ⟨rl_w1836, rl_w1837, rl_w1838⟩ rx_p267 rfl rfl hm hl1 (by omega) (by omega) ⟨dl_law__1773, dl_law__1776, dl_law__1778, dl_law__1779, dl_law__1782, dl_law__1784, dl_law__1789, dl_law__1791, dl_law__1794, dl_law__1795, dl_law__1796, dl_law__1797, dl_law__1799, dl_law__1800, dl_law__1801, dl_law__1806⟩ (by decide) kk
theorem lc_oldest {p : Program} {l : Launch} {e : Env} {s : State} {m : MethodId} {args : Array Value} {below : List Frame} {meth : Method} {c : Code} {H : Heap} {locs : List Loc} {cells slots : Nat} {Q : State → Prop} {Z : rx_Z} {ls : Array Slot} {sb L i cB bB : Nat} {xs : Nat → Int32} {X : XS} (C : LW p l s m args c sb L xs Z) (hi : i + 9 ≤ L) (hI : LI Z s cB bB H locs X) (hl : lv_has ls 8 [(0, .ref sb), (1, .ref cB), (2, .ref bB), (3, .ref (bB + 475)), (4, .int (nI i))]) (hrm : cells + 6 ≤ 601024 ∧ slots + 74 ≤ 7293034) (kk : ∀ (H' : Heap) (locs' : List Loc) (ls' : Array Slot) (X' : XS), LI Z s cB bB H' locs' X' → lv_has ls' 8 [(0, .ref sb), (1, .ref cB), (2, .ref bB), (3, .ref (bB + 475)), (4, .int (nI i))] → W p l e room_1 s m args below meth c H' locs' (cells + 6) (slots + 74) Q (F0 m 2623 ls' [])) (hj : JXq 0 Z 146 268 [.int (xs (i + 1))] cB bB X) : W p l e room_1 s m args below meth c H locs cells slots Q (F0 m 1809 ls []) := by
  obtain ⟨hx, hb, hml, hown, hts, hXs, hbl, hLL, hl9, hz1, hz2, hbs, hK, hX⟩ := id C
  obtain ⟨o, X', ok, hCL, hMR⟩ := hj
  have hS := hI.S hz1 hz2
  refine lv_aload_n hx hb dl_law__1809 rfl (lv_at hl 1 rfl) ?_
  refine lw_argC (k := 1) (a0 := 0) (a4 := 4) hx hb hXs hbl hS hl rfl rfl hLL (by omega) (by decide) ⟨dl_law__1810, dl_law__1811, dl_law__1813, dl_law__1814, dl_law__1815⟩ ?_
  refine lv_aload_n hx hb dl_law__1816 rfl (lv_at hl 3 rfl) ?_
  refine lc_stat (vs := [.int (xs (i + 1))]) C ok hCL hI (wr_oldest hl9 hbs ok (hI.ob hz1)) ⟨rl_w1238, rl_w0, rl_w1236, rl_w1237⟩ (by decide) (show rx_np yL_oldest 3 by unfold rx_np; decide +kernel) rfl hl.1 dl_law__1817 (by decide) hrm (fun H1 locs1 hm => ?_)
  have hS1 := hm.S hz1 hz2
  refine lv_istore (lv' := [(5, .int (cdO 0 o)), (0, .ref sb), (1, .ref cB), (2, .ref bB), (3, .ref (bB + 475)), (4, .int (nI i))]) hx hb dl_law__1820 hl (by decide) rfl (fun ls1 hl1 => ?_)
  refine lv_aload_n hx hb dl_law__1822 rfl (lv_at hl1 3 rfl) ?_
  refine lw_argC (k := 1) (a0 := 1) (a4 := 5) hx hb hXs hbl hS1 hl1 rfl rfl hLL (by omega) (by decide) ⟨dl_law__1823, dl_law__1824, dl_law__1826, dl_law__1827, dl_law__1828⟩ ?_
  exact lc_tail (p2 := 1829) (vs := [.int (xs (i + 1))]) C ok hMR (by decide) (by decide) (show rx_ML[268]? = some rx_m268 from rfl) ⟨rl_w1848, rl_w1849, rl_w1850⟩ rx_p268 rfl rfl hm hl1 (by omega) (by omega) ⟨dl_law__1829, dl_law__1832, dl_law__1834, dl_law__1835, dl_law__1838, dl_law__1840, dl_law__1845, dl_law__1847, dl_law__1850, dl_law__1851, dl_law__1852, dl_law__1853, dl_law__1855, dl_law__1856, dl_law__1857, dl_law__1862⟩ (by decide) kk
theorem lc_alike {p : Program} {l : Launch} {e : Env} {s : State} {m : MethodId} {args : Array Value} {below : List Frame} {meth : Method} {c : Code} {H : Heap} {locs : List Loc} {cells slots : Nat} {Q : State → Prop} {Z : rx_Z} {ls : Array Slot} {sb L i cB bB : Nat} {xs : Nat → Int32} {X : XS} (C : LW p l s m args c sb L xs Z) (hi : i + 9 ≤ L) (hI : LI Z s cB bB H locs X) (hl : lv_has ls 8 [(0, .ref sb), (1, .ref cB), (2, .ref bB), (3, .ref (bB + 475)), (4, .int (nI i))]) (hrm : cells + 6 ≤ 601024 ∧ slots + 74 ≤ 7293034) (kk : ∀ (H' : Heap) (locs' : List Loc) (ls' : Array Slot) (X' : XS), LI Z s cB bB H' locs' X' → lv_has ls' 8 [(0, .ref sb), (1, .ref cB), (2, .ref bB), (3, .ref (bB + 475)), (4, .int (nI i))] → W p l e room_1 s m args below meth c H' locs' (cells + 6) (slots + 74) Q (F0 m 2623 ls' [])) (hj : JXq 0 Z 147 270 [.int (xs (i + 1))] cB bB X) : W p l e room_1 s m args below meth c H locs cells slots Q (F0 m 1865 ls []) := by
  obtain ⟨hx, hb, hml, hown, hts, hXs, hbl, hLL, hl9, hz1, hz2, hbs, hK, hX⟩ := id C
  obtain ⟨o, X', ok, hCL, hMR⟩ := hj
  have hS := hI.S hz1 hz2
  refine lv_aload_n hx hb dl_law__1865 rfl (lv_at hl 1 rfl) ?_
  refine lw_argC (k := 1) (a0 := 0) (a4 := 4) hx hb hXs hbl hS hl rfl rfl hLL (by omega) (by decide) ⟨dl_law__1866, dl_law__1867, dl_law__1869, dl_law__1870, dl_law__1871⟩ ?_
  refine lv_aload_n hx hb dl_law__1872 rfl (lv_at hl 3 rfl) ?_
  refine lc_stat (vs := [.int (xs (i + 1))]) C ok hCL hI (wr_alike hl9 hbs ok (hI.ob hz1)) ⟨rl_w1245, rl_w0, rl_w1243, rl_w1244⟩ (by decide) (show rx_np yL_alike 3 by unfold rx_np; decide +kernel) rfl hl.1 dl_law__1873 (by decide) hrm (fun H1 locs1 hm => ?_)
  have hS1 := hm.S hz1 hz2
  refine lv_istore (lv' := [(5, .int (cdO 0 o)), (0, .ref sb), (1, .ref cB), (2, .ref bB), (3, .ref (bB + 475)), (4, .int (nI i))]) hx hb dl_law__1876 hl (by decide) rfl (fun ls1 hl1 => ?_)
  refine lv_aload_n hx hb dl_law__1878 rfl (lv_at hl1 3 rfl) ?_
  refine lw_argC (k := 1) (a0 := 1) (a4 := 5) hx hb hXs hbl hS1 hl1 rfl rfl hLL (by omega) (by decide) ⟨dl_law__1879, dl_law__1880, dl_law__1882, dl_law__1883, dl_law__1884⟩ ?_
  exact lc_tail (p2 := 1885) (vs := [.int (xs (i + 1))]) C ok hMR (by decide) (by decide) (show rx_ML[270]? = some rx_m270 from rfl) ⟨rl_w1852, rl_w1853, rl_w1854⟩ rx_p270 rfl rfl hm hl1 (by omega) (by omega) ⟨dl_law__1885, dl_law__1888, dl_law__1890, dl_law__1891, dl_law__1894, dl_law__1896, dl_law__1901, dl_law__1903, dl_law__1906, dl_law__1907, dl_law__1908, dl_law__1909, dl_law__1911, dl_law__1912, dl_law__1913, dl_law__1918⟩ (by decide) kk
theorem lc_beyond {p : Program} {l : Launch} {e : Env} {s : State} {m : MethodId} {args : Array Value} {below : List Frame} {meth : Method} {c : Code} {H : Heap} {locs : List Loc} {cells slots : Nat} {Q : State → Prop} {Z : rx_Z} {ls : Array Slot} {sb L i cB bB : Nat} {xs : Nat → Int32} {X : XS} (C : LW p l s m args c sb L xs Z) (hi : i + 9 ≤ L) (hI : LI Z s cB bB H locs X) (hl : lv_has ls 8 [(0, .ref sb), (1, .ref cB), (2, .ref bB), (3, .ref (bB + 475)), (4, .int (nI i))]) (hrm : cells + 6 ≤ 601024 ∧ slots + 74 ≤ 7293034) (kk : ∀ (H' : Heap) (locs' : List Loc) (ls' : Array Slot) (X' : XS), LI Z s cB bB H' locs' X' → lv_has ls' 8 [(0, .ref sb), (1, .ref cB), (2, .ref bB), (3, .ref (bB + 475)), (4, .int (nI i))] → W p l e room_1 s m args below meth c H' locs' (cells + 6) (slots + 74) Q (F0 m 2623 ls' [])) (hj : JXq 2 Z 148 271 [.int (xs (i + 1)), .int (xs (i + 2))] cB bB X) : W p l e room_1 s m args below meth c H locs cells slots Q (F0 m 1921 ls []) := by
  obtain ⟨hx, hb, hml, hown, hts, hXs, hbl, hLL, hl9, hz1, hz2, hbs, hK, hX⟩ := id C
  obtain ⟨o, X', ok, hCL, hMR⟩ := hj
  have hS := hI.S hz1 hz2
  refine lv_aload_n hx hb dl_law__1921 rfl (lv_at hl 1 rfl) ?_
  refine lw_argC (k := 1) (a0 := 0) (a4 := 4) hx hb hXs hbl hS hl rfl rfl hLL (by omega) (by decide) ⟨dl_law__1922, dl_law__1923, dl_law__1925, dl_law__1926, dl_law__1927⟩ ?_
  refine lw_argC (k := 2) (a0 := 0) (a4 := 4) hx hb hXs hbl hS hl rfl rfl hLL (by omega) (by decide) ⟨dl_law__1928, dl_law__1929, dl_law__1931, dl_law__1932, dl_law__1933⟩ ?_
  refine lv_aload_n hx hb dl_law__1934 rfl (lv_at hl 3 rfl) ?_
  refine lc_stat (vs := [.int (xs (i + 1)), .int (xs (i + 2))]) C ok hCL hI (wr_beyond hl9 hbs ok (hI.ob hz1)) ⟨rl_w1257, rl_w0, rl_w1255, rl_w1256⟩ (by decide) (show rx_np yL_beyond 4 by unfold rx_np; decide +kernel) rfl hl.1 dl_law__1935 (by decide) hrm (fun H1 locs1 hm => ?_)
  have hS1 := hm.S hz1 hz2
  refine lv_istore (lv' := [(5, .int (cdO 2 o)), (0, .ref sb), (1, .ref cB), (2, .ref bB), (3, .ref (bB + 475)), (4, .int (nI i))]) hx hb dl_law__1938 hl (by decide) rfl (fun ls1 hl1 => ?_)
  refine lv_aload_n hx hb dl_law__1940 rfl (lv_at hl1 3 rfl) ?_
  refine lw_argC (k := 1) (a0 := 1) (a4 := 5) hx hb hXs hbl hS1 hl1 rfl rfl hLL (by omega) (by decide) ⟨dl_law__1941, dl_law__1942, dl_law__1944, dl_law__1945, dl_law__1946⟩ ?_
  refine lw_argC (k := 2) (a0 := 1) (a4 := 5) hx hb hXs hbl hS1 hl1 rfl rfl hLL (by omega) (by decide) ⟨dl_law__1947, dl_law__1948, dl_law__1950, dl_law__1951, dl_law__1952⟩ ?_
  exact lc_tail (p2 := 1953) (vs := [.int (xs (i + 1)), .int (xs (i + 2))]) C ok hMR (by decide) (by decide) (show rx_ML[271]? = some rx_m271 from rfl) ⟨rl_w1860, rl_w1861, rl_w1862⟩ rx_p271 rfl rfl hm hl1 (by omega) (by omega) ⟨dl_law__1953, dl_law__1956, dl_law__1958, dl_law__1959, dl_law__1962, dl_law__1964, dl_law__1969, dl_law__1971, dl_law__1974, dl_law__1975, dl_law__1976, dl_law__1977, dl_law__1979, dl_law__1980, dl_law__1981, dl_law__1986⟩ (by decide) kk
theorem lc_nearest {p : Program} {l : Launch} {e : Env} {s : State} {m : MethodId} {args : Array Value} {below : List Frame} {meth : Method} {c : Code} {H : Heap} {locs : List Loc} {cells slots : Nat} {Q : State → Prop} {Z : rx_Z} {ls : Array Slot} {sb L i cB bB : Nat} {xs : Nat → Int32} {X : XS} (C : LW p l s m args c sb L xs Z) (hi : i + 9 ≤ L) (hI : LI Z s cB bB H locs X) (hl : lv_has ls 8 [(0, .ref sb), (1, .ref cB), (2, .ref bB), (3, .ref (bB + 475)), (4, .int (nI i))]) (hrm : cells + 6 ≤ 601024 ∧ slots + 74 ≤ 7293034) (kk : ∀ (H' : Heap) (locs' : List Loc) (ls' : Array Slot) (X' : XS), LI Z s cB bB H' locs' X' → lv_has ls' 8 [(0, .ref sb), (1, .ref cB), (2, .ref bB), (3, .ref (bB + 475)), (4, .int (nI i))] → W p l e room_1 s m args below meth c H' locs' (cells + 6) (slots + 74) Q (F0 m 2623 ls' [])) (hj : JXq 0 Z 149 272 [.int (xs (i + 1))] cB bB X) : W p l e room_1 s m args below meth c H locs cells slots Q (F0 m 1989 ls []) := by
  obtain ⟨hx, hb, hml, hown, hts, hXs, hbl, hLL, hl9, hz1, hz2, hbs, hK, hX⟩ := id C
  obtain ⟨o, X', ok, hCL, hMR⟩ := hj
  have hS := hI.S hz1 hz2
  refine lv_aload_n hx hb dl_law__1989 rfl (lv_at hl 1 rfl) ?_
  refine lw_argC (k := 1) (a0 := 0) (a4 := 4) hx hb hXs hbl hS hl rfl rfl hLL (by omega) (by decide) ⟨dl_law__1990, dl_law__1991, dl_law__1993, dl_law__1994, dl_law__1995⟩ ?_
  refine lv_aload_n hx hb dl_law__1996 rfl (lv_at hl 3 rfl) ?_
  refine lc_stat (vs := [.int (xs (i + 1))]) C ok hCL hI (wr_nearest hl9 hbs ok (hI.ob hz1)) ⟨rl_w1264, rl_w0, rl_w1262, rl_w1263⟩ (by decide) (show rx_np yL_nearest 3 by unfold rx_np; decide +kernel) rfl hl.1 dl_law__1997 (by decide) hrm (fun H1 locs1 hm => ?_)
  have hS1 := hm.S hz1 hz2
  refine lv_istore (lv' := [(5, .int (cdO 0 o)), (0, .ref sb), (1, .ref cB), (2, .ref bB), (3, .ref (bB + 475)), (4, .int (nI i))]) hx hb dl_law__2000 hl (by decide) rfl (fun ls1 hl1 => ?_)
  refine lv_aload_n hx hb dl_law__2002 rfl (lv_at hl1 3 rfl) ?_
  refine lw_argC (k := 1) (a0 := 1) (a4 := 5) hx hb hXs hbl hS1 hl1 rfl rfl hLL (by omega) (by decide) ⟨dl_law__2003, dl_law__2004, dl_law__2006, dl_law__2007, dl_law__2008⟩ ?_
  exact lc_tail (p2 := 2009) (vs := [.int (xs (i + 1))]) C ok hMR (by decide) (by decide) (show rx_ML[272]? = some rx_m272 from rfl) ⟨rl_w1864, rl_w1865, rl_w1866⟩ rx_p272 rfl rfl hm hl1 (by omega) (by omega) ⟨dl_law__2009, dl_law__2012, dl_law__2014, dl_law__2015, dl_law__2018, dl_law__2020, dl_law__2025, dl_law__2027, dl_law__2030, dl_law__2031, dl_law__2032, dl_law__2033, dl_law__2035, dl_law__2036, dl_law__2037, dl_law__2042⟩ (by decide) kk
theorem lc_spread {p : Program} {l : Launch} {e : Env} {s : State} {m : MethodId} {args : Array Value} {below : List Frame} {meth : Method} {c : Code} {H : Heap} {locs : List Loc} {cells slots : Nat} {Q : State → Prop} {Z : rx_Z} {ls : Array Slot} {sb L i cB bB : Nat} {xs : Nat → Int32} {X : XS} (C : LW p l s m args c sb L xs Z) (hi : i + 9 ≤ L) (hI : LI Z s cB bB H locs X) (hl : lv_has ls 8 [(0, .ref sb), (1, .ref cB), (2, .ref bB), (3, .ref (bB + 475)), (4, .int (nI i))]) (hrm : cells + 6 ≤ 601024 ∧ slots + 74 ≤ 7293034) (kk : ∀ (H' : Heap) (locs' : List Loc) (ls' : Array Slot) (X' : XS), LI Z s cB bB H' locs' X' → lv_has ls' 8 [(0, .ref sb), (1, .ref cB), (2, .ref bB), (3, .ref (bB + 475)), (4, .int (nI i))] → W p l e room_1 s m args below meth c H' locs' (cells + 6) (slots + 74) Q (F0 m 2623 ls' [])) (hj : JXq 0 Z 150 273 [.int (xs (i + 1)), .int (xs (i + 2))] cB bB X) : W p l e room_1 s m args below meth c H locs cells slots Q (F0 m 2045 ls []) := by
  obtain ⟨hx, hb, hml, hown, hts, hXs, hbl, hLL, hl9, hz1, hz2, hbs, hK, hX⟩ := id C
  obtain ⟨o, X', ok, hCL, hMR⟩ := hj
  have hS := hI.S hz1 hz2
  refine lv_aload_n hx hb dl_law__2045 rfl (lv_at hl 1 rfl) ?_
  refine lw_argC (k := 1) (a0 := 0) (a4 := 4) hx hb hXs hbl hS hl rfl rfl hLL (by omega) (by decide) ⟨dl_law__2046, dl_law__2047, dl_law__2049, dl_law__2050, dl_law__2051⟩ ?_
  refine lw_argC (k := 2) (a0 := 0) (a4 := 4) hx hb hXs hbl hS hl rfl rfl hLL (by omega) (by decide) ⟨dl_law__2052, dl_law__2053, dl_law__2055, dl_law__2056, dl_law__2057⟩ ?_
  refine lv_aload_n hx hb dl_law__2058 rfl (lv_at hl 3 rfl) ?_
  refine lc_stat (vs := [.int (xs (i + 1)), .int (xs (i + 2))]) C ok hCL hI (wr_spread hl9 hbs ok (hI.ob hz1)) ⟨rl_w1271, rl_w0, rl_w1269, rl_w1270⟩ (by decide) (show rx_np yL_spread 4 by unfold rx_np; decide +kernel) rfl hl.1 dl_law__2059 (by decide) hrm (fun H1 locs1 hm => ?_)
  have hS1 := hm.S hz1 hz2
  refine lv_istore (lv' := [(5, .int (cdO 0 o)), (0, .ref sb), (1, .ref cB), (2, .ref bB), (3, .ref (bB + 475)), (4, .int (nI i))]) hx hb dl_law__2062 hl (by decide) rfl (fun ls1 hl1 => ?_)
  refine lv_aload_n hx hb dl_law__2064 rfl (lv_at hl1 3 rfl) ?_
  refine lw_argC (k := 1) (a0 := 1) (a4 := 5) hx hb hXs hbl hS1 hl1 rfl rfl hLL (by omega) (by decide) ⟨dl_law__2065, dl_law__2066, dl_law__2068, dl_law__2069, dl_law__2070⟩ ?_
  refine lw_argC (k := 2) (a0 := 1) (a4 := 5) hx hb hXs hbl hS1 hl1 rfl rfl hLL (by omega) (by decide) ⟨dl_law__2071, dl_law__2072, dl_law__2074, dl_law__2075, dl_law__2076⟩ ?_
  exact lc_tail (p2 := 2077) (vs := [.int (xs (i + 1)), .int (xs (i + 2))]) C ok hMR (by decide) (by decide) (show rx_ML[273]? = some rx_m273 from rfl) ⟨rl_w1868, rl_w1869, rl_w1870⟩ rx_p273 rfl rfl hm hl1 (by omega) (by omega) ⟨dl_law__2077, dl_law__2080, dl_law__2082, dl_law__2083, dl_law__2086, dl_law__2088, dl_law__2093, dl_law__2095, dl_law__2098, dl_law__2099, dl_law__2100, dl_law__2101, dl_law__2103, dl_law__2104, dl_law__2105, dl_law__2110⟩ (by decide) kk
theorem lc_masks {p : Program} {l : Launch} {e : Env} {s : State} {m : MethodId} {args : Array Value} {below : List Frame} {meth : Method} {c : Code} {H : Heap} {locs : List Loc} {cells slots : Nat} {Q : State → Prop} {Z : rx_Z} {ls : Array Slot} {sb L i cB bB : Nat} {xs : Nat → Int32} {X : XS} (C : LW p l s m args c sb L xs Z) (hi : i + 9 ≤ L) (hI : LI Z s cB bB H locs X) (hl : lv_has ls 8 [(0, .ref sb), (1, .ref cB), (2, .ref bB), (3, .ref (bB + 475)), (4, .int (nI i))]) (hrm : cells + 6 ≤ 601024 ∧ slots + 74 ≤ 7293034) (kk : ∀ (H' : Heap) (locs' : List Loc) (ls' : Array Slot) (X' : XS), LI Z s cB bB H' locs' X' → lv_has ls' 8 [(0, .ref sb), (1, .ref cB), (2, .ref bB), (3, .ref (bB + 475)), (4, .int (nI i))] → W p l e room_1 s m args below meth c H' locs' (cells + 6) (slots + 74) Q (F0 m 2623 ls' [])) (hj : JXq 1 Z 151 274 [.int (xs (i + 1))] cB bB X) : W p l e room_1 s m args below meth c H locs cells slots Q (F0 m 2113 ls []) := by
  obtain ⟨hx, hb, hml, hown, hts, hXs, hbl, hLL, hl9, hz1, hz2, hbs, hK, hX⟩ := id C
  obtain ⟨o, X', ok, hCL, hMR⟩ := hj
  have hS := hI.S hz1 hz2
  refine lv_aload_n hx hb dl_law__2113 rfl (lv_at hl 1 rfl) ?_
  refine lw_argC (k := 1) (a0 := 0) (a4 := 4) hx hb hXs hbl hS hl rfl rfl hLL (by omega) (by decide) ⟨dl_law__2114, dl_law__2115, dl_law__2117, dl_law__2118, dl_law__2119⟩ ?_
  refine lv_aload_n hx hb dl_law__2120 rfl (lv_at hl 3 rfl) ?_
  refine lc_stat (vs := [.int (xs (i + 1))]) C ok hCL hI (wr_masks hl9 hbs ok (hI.ob hz1)) ⟨rl_w1279, rl_w0, rl_w1277, rl_w1278⟩ (by decide) (show rx_np yL_masks 3 by unfold rx_np; decide +kernel) rfl hl.1 dl_law__2121 (by decide) hrm (fun H1 locs1 hm => ?_)
  have hS1 := hm.S hz1 hz2
  refine lv_istore (lv' := [(5, .int (cdO 1 o)), (0, .ref sb), (1, .ref cB), (2, .ref bB), (3, .ref (bB + 475)), (4, .int (nI i))]) hx hb dl_law__2124 hl (by decide) rfl (fun ls1 hl1 => ?_)
  refine lv_aload_n hx hb dl_law__2126 rfl (lv_at hl1 3 rfl) ?_
  refine lw_argC (k := 1) (a0 := 1) (a4 := 5) hx hb hXs hbl hS1 hl1 rfl rfl hLL (by omega) (by decide) ⟨dl_law__2127, dl_law__2128, dl_law__2130, dl_law__2131, dl_law__2132⟩ ?_
  exact lc_tail (p2 := 2133) (vs := [.int (xs (i + 1))]) C ok hMR (by decide) (by decide) (show rx_ML[274]? = some rx_m274 from rfl) ⟨rl_w1872, rl_w1873, rl_w1874⟩ rx_p274 rfl rfl hm hl1 (by omega) (by omega) ⟨dl_law__2133, dl_law__2136, dl_law__2138, dl_law__2139, dl_law__2142, dl_law__2144, dl_law__2149, dl_law__2151, dl_law__2154, dl_law__2155, dl_law__2156, dl_law__2157, dl_law__2159, dl_law__2160, dl_law__2161, dl_law__2166⟩ (by decide) kk
theorem lc_rank {p : Program} {l : Launch} {e : Env} {s : State} {m : MethodId} {args : Array Value} {below : List Frame} {meth : Method} {c : Code} {H : Heap} {locs : List Loc} {cells slots : Nat} {Q : State → Prop} {Z : rx_Z} {ls : Array Slot} {sb L i cB bB : Nat} {xs : Nat → Int32} {X : XS} (C : LW p l s m args c sb L xs Z) (hi : i + 9 ≤ L) (hI : LI Z s cB bB H locs X) (hl : lv_has ls 8 [(0, .ref sb), (1, .ref cB), (2, .ref bB), (3, .ref (bB + 475)), (4, .int (nI i))]) (hrm : cells + 6 ≤ 601024 ∧ slots + 74 ≤ 7293034) (kk : ∀ (H' : Heap) (locs' : List Loc) (ls' : Array Slot) (X' : XS), LI Z s cB bB H' locs' X' → lv_has ls' 8 [(0, .ref sb), (1, .ref cB), (2, .ref bB), (3, .ref (bB + 475)), (4, .int (nI i))] → W p l e room_1 s m args below meth c H' locs' (cells + 6) (slots + 74) Q (F0 m 2623 ls' [])) (hj : JXq 0 Z 152 275 [.int (xs (i + 1))] cB bB X) : W p l e room_1 s m args below meth c H locs cells slots Q (F0 m 2169 ls []) := by
  obtain ⟨hx, hb, hml, hown, hts, hXs, hbl, hLL, hl9, hz1, hz2, hbs, hK, hX⟩ := id C
  obtain ⟨o, X', ok, hCL, hMR⟩ := hj
  have hS := hI.S hz1 hz2
  refine lv_aload_n hx hb dl_law__2169 rfl (lv_at hl 1 rfl) ?_
  refine lw_argC (k := 1) (a0 := 0) (a4 := 4) hx hb hXs hbl hS hl rfl rfl hLL (by omega) (by decide) ⟨dl_law__2170, dl_law__2171, dl_law__2173, dl_law__2174, dl_law__2175⟩ ?_
  refine lv_aload_n hx hb dl_law__2176 rfl (lv_at hl 3 rfl) ?_
  refine lc_stat (vs := [.int (xs (i + 1))]) C ok hCL hI (wr_rank hl9 hbs ok (hI.ob hz1)) ⟨rl_w1287, rl_w0, rl_w1285, rl_w1286⟩ (by decide) (show rx_np yL_rank 3 by unfold rx_np; decide +kernel) rfl hl.1 dl_law__2177 (by decide) hrm (fun H1 locs1 hm => ?_)
  have hS1 := hm.S hz1 hz2
  refine lv_istore (lv' := [(5, .int (cdO 0 o)), (0, .ref sb), (1, .ref cB), (2, .ref bB), (3, .ref (bB + 475)), (4, .int (nI i))]) hx hb dl_law__2180 hl (by decide) rfl (fun ls1 hl1 => ?_)
  refine lv_aload_n hx hb dl_law__2182 rfl (lv_at hl1 3 rfl) ?_
  refine lw_argC (k := 1) (a0 := 1) (a4 := 5) hx hb hXs hbl hS1 hl1 rfl rfl hLL (by omega) (by decide) ⟨dl_law__2183, dl_law__2184, dl_law__2186, dl_law__2187, dl_law__2188⟩ ?_
  exact lc_tail (p2 := 2189) (vs := [.int (xs (i + 1))]) C ok hMR (by decide) (by decide) (show rx_ML[275]? = some rx_m275 from rfl) ⟨rl_w1876, rl_w1877, rl_w1878⟩ rx_p275 rfl rfl hm hl1 (by omega) (by omega) ⟨dl_law__2189, dl_law__2192, dl_law__2194, dl_law__2195, dl_law__2198, dl_law__2200, dl_law__2205, dl_law__2207, dl_law__2210, dl_law__2211, dl_law__2212, dl_law__2213, dl_law__2215, dl_law__2216, dl_law__2217, dl_law__2222⟩ (by decide) kk
theorem lc_mild {p : Program} {l : Launch} {e : Env} {s : State} {m : MethodId} {args : Array Value} {below : List Frame} {meth : Method} {c : Code} {H : Heap} {locs : List Loc} {cells slots : Nat} {Q : State → Prop} {Z : rx_Z} {ls : Array Slot} {sb L i cB bB : Nat} {xs : Nat → Int32} {X : XS} (C : LW p l s m args c sb L xs Z) (hi : i + 9 ≤ L) (hI : LI Z s cB bB H locs X) (hl : lv_has ls 8 [(0, .ref sb), (1, .ref cB), (2, .ref bB), (3, .ref (bB + 475)), (4, .int (nI i))]) (hrm : cells + 6 ≤ 601024 ∧ slots + 74 ≤ 7293034) (kk : ∀ (H' : Heap) (locs' : List Loc) (ls' : Array Slot) (X' : XS), LI Z s cB bB H' locs' X' → lv_has ls' 8 [(0, .ref sb), (1, .ref cB), (2, .ref bB), (3, .ref (bB + 475)), (4, .int (nI i))] → W p l e room_1 s m args below meth c H' locs' (cells + 6) (slots + 74) Q (F0 m 2623 ls' [])) (hj : JXq 0 Z 153 276 [.int (xs (i + 1))] cB bB X) : W p l e room_1 s m args below meth c H locs cells slots Q (F0 m 2225 ls []) := by
  obtain ⟨hx, hb, hml, hown, hts, hXs, hbl, hLL, hl9, hz1, hz2, hbs, hK, hX⟩ := id C
  obtain ⟨o, X', ok, hCL, hMR⟩ := hj
  have hS := hI.S hz1 hz2
  refine lv_aload_n hx hb dl_law__2225 rfl (lv_at hl 1 rfl) ?_
  refine lw_argC (k := 1) (a0 := 0) (a4 := 4) hx hb hXs hbl hS hl rfl rfl hLL (by omega) (by decide) ⟨dl_law__2226, dl_law__2227, dl_law__2229, dl_law__2230, dl_law__2231⟩ ?_
  refine lv_aload_n hx hb dl_law__2232 rfl (lv_at hl 3 rfl) ?_
  refine lc_stat (vs := [.int (xs (i + 1))]) C ok hCL hI (wr_mild hl9 hbs ok (hI.ob hz1)) ⟨rl_w1298, rl_w0, rl_w1296, rl_w1297⟩ (by decide) (show rx_np yL_mild 3 by unfold rx_np; decide +kernel) rfl hl.1 dl_law__2233 (by decide) hrm (fun H1 locs1 hm => ?_)
  have hS1 := hm.S hz1 hz2
  refine lv_istore (lv' := [(5, .int (cdO 0 o)), (0, .ref sb), (1, .ref cB), (2, .ref bB), (3, .ref (bB + 475)), (4, .int (nI i))]) hx hb dl_law__2236 hl (by decide) rfl (fun ls1 hl1 => ?_)
  refine lv_aload_n hx hb dl_law__2238 rfl (lv_at hl1 3 rfl) ?_
  refine lw_argC (k := 1) (a0 := 1) (a4 := 5) hx hb hXs hbl hS1 hl1 rfl rfl hLL (by omega) (by decide) ⟨dl_law__2239, dl_law__2240, dl_law__2242, dl_law__2243, dl_law__2244⟩ ?_
  exact lc_tail (p2 := 2245) (vs := [.int (xs (i + 1))]) C ok hMR (by decide) (by decide) (show rx_ML[276]? = some rx_m276 from rfl) ⟨rl_w1880, rl_w1881, rl_w1882⟩ rx_p276 rfl rfl hm hl1 (by omega) (by omega) ⟨dl_law__2245, dl_law__2248, dl_law__2250, dl_law__2251, dl_law__2254, dl_law__2256, dl_law__2261, dl_law__2263, dl_law__2266, dl_law__2267, dl_law__2268, dl_law__2269, dl_law__2271, dl_law__2272, dl_law__2273, dl_law__2278⟩ (by decide) kk
theorem lc_unlike {p : Program} {l : Launch} {e : Env} {s : State} {m : MethodId} {args : Array Value} {below : List Frame} {meth : Method} {c : Code} {H : Heap} {locs : List Loc} {cells slots : Nat} {Q : State → Prop} {Z : rx_Z} {ls : Array Slot} {sb L i cB bB : Nat} {xs : Nat → Int32} {X : XS} (C : LW p l s m args c sb L xs Z) (hi : i + 9 ≤ L) (hI : LI Z s cB bB H locs X) (hl : lv_has ls 8 [(0, .ref sb), (1, .ref cB), (2, .ref bB), (3, .ref (bB + 475)), (4, .int (nI i))]) (hrm : cells + 6 ≤ 601024 ∧ slots + 74 ≤ 7293034) (kk : ∀ (H' : Heap) (locs' : List Loc) (ls' : Array Slot) (X' : XS), LI Z s cB bB H' locs' X' → lv_has ls' 8 [(0, .ref sb), (1, .ref cB), (2, .ref bB), (3, .ref (bB + 475)), (4, .int (nI i))] → W p l e room_1 s m args below meth c H' locs' (cells + 6) (slots + 74) Q (F0 m 2623 ls' [])) (hj : JXq 1 Z 154 277 [.int (xs (i + 1))] cB bB X) : W p l e room_1 s m args below meth c H locs cells slots Q (F0 m 2281 ls []) := by
  obtain ⟨hx, hb, hml, hown, hts, hXs, hbl, hLL, hl9, hz1, hz2, hbs, hK, hX⟩ := id C
  obtain ⟨o, X', ok, hCL, hMR⟩ := hj
  have hS := hI.S hz1 hz2
  refine lv_aload_n hx hb dl_law__2281 rfl (lv_at hl 1 rfl) ?_
  refine lw_argC (k := 1) (a0 := 0) (a4 := 4) hx hb hXs hbl hS hl rfl rfl hLL (by omega) (by decide) ⟨dl_law__2282, dl_law__2283, dl_law__2285, dl_law__2286, dl_law__2287⟩ ?_
  refine lv_aload_n hx hb dl_law__2288 rfl (lv_at hl 3 rfl) ?_
  refine lc_stat (vs := [.int (xs (i + 1))]) C ok hCL hI (wr_unlike hl9 hbs ok (hI.ob hz1)) ⟨rl_w1309, rl_w0, rl_w1307, rl_w1308⟩ (by decide) (show rx_np yL_unlike 3 by unfold rx_np; decide +kernel) rfl hl.1 dl_law__2289 (by decide) hrm (fun H1 locs1 hm => ?_)
  have hS1 := hm.S hz1 hz2
  refine lv_istore (lv' := [(5, .int (cdO 1 o)), (0, .ref sb), (1, .ref cB), (2, .ref bB), (3, .ref (bB + 475)), (4, .int (nI i))]) hx hb dl_law__2292 hl (by decide) rfl (fun ls1 hl1 => ?_)
  refine lv_aload_n hx hb dl_law__2294 rfl (lv_at hl1 3 rfl) ?_
  refine lw_argC (k := 1) (a0 := 1) (a4 := 5) hx hb hXs hbl hS1 hl1 rfl rfl hLL (by omega) (by decide) ⟨dl_law__2295, dl_law__2296, dl_law__2298, dl_law__2299, dl_law__2300⟩ ?_
  exact lc_tail (p2 := 2301) (vs := [.int (xs (i + 1))]) C ok hMR (by decide) (by decide) (show rx_ML[277]? = some rx_m277 from rfl) ⟨rl_w1884, rl_w1885, rl_w1886⟩ rx_p277 rfl rfl hm hl1 (by omega) (by omega) ⟨dl_law__2301, dl_law__2304, dl_law__2306, dl_law__2307, dl_law__2310, dl_law__2312, dl_law__2317, dl_law__2319, dl_law__2322, dl_law__2323, dl_law__2324, dl_law__2325, dl_law__2327, dl_law__2328, dl_law__2329, dl_law__2334⟩ (by decide) kk
theorem lc_century {p : Program} {l : Launch} {e : Env} {s : State} {m : MethodId} {args : Array Value} {below : List Frame} {meth : Method} {c : Code} {H : Heap} {locs : List Loc} {cells slots : Nat} {Q : State → Prop} {Z : rx_Z} {ls : Array Slot} {sb L i cB bB : Nat} {xs : Nat → Int32} {X : XS} (C : LW p l s m args c sb L xs Z) (hi : i + 9 ≤ L) (hI : LI Z s cB bB H locs X) (hl : lv_has ls 8 [(0, .ref sb), (1, .ref cB), (2, .ref bB), (3, .ref (bB + 475)), (4, .int (nI i))]) (hrm : cells + 6 ≤ 601024 ∧ slots + 74 ≤ 7293034) (kk : ∀ (H' : Heap) (locs' : List Loc) (ls' : Array Slot) (X' : XS), LI Z s cB bB H' locs' X' → lv_has ls' 8 [(0, .ref sb), (1, .ref cB), (2, .ref bB), (3, .ref (bB + 475)), (4, .int (nI i))] → W p l e room_1 s m args below meth c H' locs' (cells + 6) (slots + 74) Q (F0 m 2623 ls' [])) (hj : JXq 0 Z 155 281 [.int (xs (i + 1)), .int (xs (i + 2)), .int (xs (i + 3)), .int (xs (i + 4))] cB bB X) : W p l e room_1 s m args below meth c H locs cells slots Q (F0 m 2337 ls []) := by
  obtain ⟨hx, hb, hml, hown, hts, hXs, hbl, hLL, hl9, hz1, hz2, hbs, hK, hX⟩ := id C
  obtain ⟨o, X', ok, hCL, hMR⟩ := hj
  have hS := hI.S hz1 hz2
  refine lv_aload_n hx hb dl_law__2337 rfl (lv_at hl 1 rfl) ?_
  refine lw_argC (k := 1) (a0 := 0) (a4 := 4) hx hb hXs hbl hS hl rfl rfl hLL (by omega) (by decide) ⟨dl_law__2338, dl_law__2339, dl_law__2341, dl_law__2342, dl_law__2343⟩ ?_
  refine lw_argC (k := 2) (a0 := 0) (a4 := 4) hx hb hXs hbl hS hl rfl rfl hLL (by omega) (by decide) ⟨dl_law__2344, dl_law__2345, dl_law__2347, dl_law__2348, dl_law__2349⟩ ?_
  refine lw_argC (k := 3) (a0 := 0) (a4 := 4) hx hb hXs hbl hS hl rfl rfl hLL (by omega) (by decide) ⟨dl_law__2350, dl_law__2351, dl_law__2353, dl_law__2354, dl_law__2355⟩ ?_
  refine lw_argC (k := 4) (a0 := 0) (a4 := 4) hx hb hXs hbl hS hl rfl rfl hLL (by omega) (by decide) ⟨dl_law__2356, dl_law__2357, dl_law__2359, dl_law__2360, dl_law__2361⟩ ?_
  refine lv_aload_n hx hb dl_law__2362 rfl (lv_at hl 3 rfl) ?_
  refine lc_stat (vs := [.int (xs (i + 1)), .int (xs (i + 2)), .int (xs (i + 3)), .int (xs (i + 4))]) C ok hCL hI (wr_century hl9 hbs ok (hI.ob hz1)) ⟨rl_w1316, rl_w0, rl_w1314, rl_w1315⟩ (by decide) (show rx_np yL_century 6 by unfold rx_np; decide +kernel) rfl hl.1 dl_law__2363 (by decide) hrm (fun H1 locs1 hm => ?_)
  have hS1 := hm.S hz1 hz2
  refine lv_istore (lv' := [(5, .int (cdO 0 o)), (0, .ref sb), (1, .ref cB), (2, .ref bB), (3, .ref (bB + 475)), (4, .int (nI i))]) hx hb dl_law__2366 hl (by decide) rfl (fun ls1 hl1 => ?_)
  refine lv_aload_n hx hb dl_law__2368 rfl (lv_at hl1 3 rfl) ?_
  refine lw_argC (k := 1) (a0 := 1) (a4 := 5) hx hb hXs hbl hS1 hl1 rfl rfl hLL (by omega) (by decide) ⟨dl_law__2369, dl_law__2370, dl_law__2372, dl_law__2373, dl_law__2374⟩ ?_
  refine lw_argC (k := 2) (a0 := 1) (a4 := 5) hx hb hXs hbl hS1 hl1 rfl rfl hLL (by omega) (by decide) ⟨dl_law__2375, dl_law__2376, dl_law__2378, dl_law__2379, dl_law__2380⟩ ?_
  refine lw_argC (k := 3) (a0 := 1) (a4 := 5) hx hb hXs hbl hS1 hl1 rfl rfl hLL (by omega) (by decide) ⟨dl_law__2381, dl_law__2382, dl_law__2384, dl_law__2385, dl_law__2386⟩ ?_
  refine lw_argC (k := 4) (a0 := 1) (a4 := 5) hx hb hXs hbl hS1 hl1 rfl rfl hLL (by omega) (by decide) ⟨dl_law__2387, dl_law__2388, dl_law__2390, dl_law__2391, dl_law__2392⟩ ?_
  exact lc_tail (p2 := 2393) (vs := [.int (xs (i + 1)), .int (xs (i + 2)), .int (xs (i + 3)), .int (xs (i + 4))]) C ok hMR (by decide) (by decide) (show rx_ML[281]? = some rx_m281 from rfl) ⟨rl_w1888, rl_w1889, rl_w1890⟩ rx_p281 rfl rfl hm hl1 (by omega) (by omega) ⟨dl_law__2393, dl_law__2396, dl_law__2398, dl_law__2399, dl_law__2402, dl_law__2404, dl_law__2409, dl_law__2411, dl_law__2414, dl_law__2415, dl_law__2416, dl_law__2417, dl_law__2419, dl_law__2420, dl_law__2421, dl_law__2426⟩ (by decide) kk
theorem lc_span {p : Program} {l : Launch} {e : Env} {s : State} {m : MethodId} {args : Array Value} {below : List Frame} {meth : Method} {c : Code} {H : Heap} {locs : List Loc} {cells slots : Nat} {Q : State → Prop} {Z : rx_Z} {ls : Array Slot} {sb L i cB bB : Nat} {xs : Nat → Int32} {X : XS} (C : LW p l s m args c sb L xs Z) (hi : i + 9 ≤ L) (hI : LI Z s cB bB H locs X) (hl : lv_has ls 8 [(0, .ref sb), (1, .ref cB), (2, .ref bB), (3, .ref (bB + 475)), (4, .int (nI i))]) (hrm : cells + 6 ≤ 601024 ∧ slots + 74 ≤ 7293034) (kk : ∀ (H' : Heap) (locs' : List Loc) (ls' : Array Slot) (X' : XS), LI Z s cB bB H' locs' X' → lv_has ls' 8 [(0, .ref sb), (1, .ref cB), (2, .ref bB), (3, .ref (bB + 475)), (4, .int (nI i))] → W p l e room_1 s m args below meth c H' locs' (cells + 6) (slots + 74) Q (F0 m 2623 ls' [])) (hj : JXq 0 Z 156 282 [.int (xs (i + 1)), .int (xs (i + 2)), .int (xs (i + 3)), .int (xs (i + 4)), .int (xs (i + 5)), .int (xs (i + 6))] cB bB X) : W p l e room_1 s m args below meth c H locs cells slots Q (F0 m 2429 ls []) := by
  obtain ⟨hx, hb, hml, hown, hts, hXs, hbl, hLL, hl9, hz1, hz2, hbs, hK, hX⟩ := id C
  obtain ⟨o, X', ok, hCL, hMR⟩ := hj
  have hS := hI.S hz1 hz2
  refine lv_aload_n hx hb dl_law__2429 rfl (lv_at hl 1 rfl) ?_
  refine lw_argC (k := 1) (a0 := 0) (a4 := 4) hx hb hXs hbl hS hl rfl rfl hLL (by omega) (by decide) ⟨dl_law__2430, dl_law__2431, dl_law__2433, dl_law__2434, dl_law__2435⟩ ?_
  refine lw_argC (k := 2) (a0 := 0) (a4 := 4) hx hb hXs hbl hS hl rfl rfl hLL (by omega) (by decide) ⟨dl_law__2436, dl_law__2437, dl_law__2439, dl_law__2440, dl_law__2441⟩ ?_
  refine lw_argC (k := 3) (a0 := 0) (a4 := 4) hx hb hXs hbl hS hl rfl rfl hLL (by omega) (by decide) ⟨dl_law__2442, dl_law__2443, dl_law__2445, dl_law__2446, dl_law__2447⟩ ?_
  refine lw_argC (k := 4) (a0 := 0) (a4 := 4) hx hb hXs hbl hS hl rfl rfl hLL (by omega) (by decide) ⟨dl_law__2448, dl_law__2449, dl_law__2451, dl_law__2452, dl_law__2453⟩ ?_
  refine lw_argC (k := 5) (a0 := 0) (a4 := 4) hx hb hXs hbl hS hl rfl rfl hLL (by omega) (by decide) ⟨dl_law__2454, dl_law__2455, dl_law__2457, dl_law__2458, dl_law__2459⟩ ?_
  refine lw_argB (k := 6) (a0 := 0) (a4 := 4) hx hb hXs hbl hS hl rfl rfl hLL (by omega) (by decide) ⟨dl_law__2460, dl_law__2461, dl_law__2463, dl_law__2465, dl_law__2466⟩ ?_
  refine lv_aload_n hx hb dl_law__2467 rfl (lv_at hl 3 rfl) ?_
  refine lc_stat (vs := [.int (xs (i + 1)), .int (xs (i + 2)), .int (xs (i + 3)), .int (xs (i + 4)), .int (xs (i + 5)), .int (xs (i + 6))]) C ok hCL hI (wr_span hl9 hbs ok (hI.ob hz1)) ⟨rl_w1335, rl_w0, rl_w1333, rl_w1334⟩ (by decide) (show rx_np yL_span 8 by unfold rx_np; decide +kernel) rfl hl.1 dl_law__2468 (by decide) hrm (fun H1 locs1 hm => ?_)
  have hS1 := hm.S hz1 hz2
  refine lv_istore (lv' := [(5, .int (cdO 0 o)), (0, .ref sb), (1, .ref cB), (2, .ref bB), (3, .ref (bB + 475)), (4, .int (nI i))]) hx hb dl_law__2471 hl (by decide) rfl (fun ls1 hl1 => ?_)
  refine lv_aload_n hx hb dl_law__2473 rfl (lv_at hl1 3 rfl) ?_
  refine lw_argC (k := 1) (a0 := 1) (a4 := 5) hx hb hXs hbl hS1 hl1 rfl rfl hLL (by omega) (by decide) ⟨dl_law__2474, dl_law__2475, dl_law__2477, dl_law__2478, dl_law__2479⟩ ?_
  refine lw_argC (k := 2) (a0 := 1) (a4 := 5) hx hb hXs hbl hS1 hl1 rfl rfl hLL (by omega) (by decide) ⟨dl_law__2480, dl_law__2481, dl_law__2483, dl_law__2484, dl_law__2485⟩ ?_
  refine lw_argC (k := 3) (a0 := 1) (a4 := 5) hx hb hXs hbl hS1 hl1 rfl rfl hLL (by omega) (by decide) ⟨dl_law__2486, dl_law__2487, dl_law__2489, dl_law__2490, dl_law__2491⟩ ?_
  refine lw_argC (k := 4) (a0 := 1) (a4 := 5) hx hb hXs hbl hS1 hl1 rfl rfl hLL (by omega) (by decide) ⟨dl_law__2492, dl_law__2493, dl_law__2495, dl_law__2496, dl_law__2497⟩ ?_
  refine lw_argC (k := 5) (a0 := 1) (a4 := 5) hx hb hXs hbl hS1 hl1 rfl rfl hLL (by omega) (by decide) ⟨dl_law__2498, dl_law__2499, dl_law__2501, dl_law__2502, dl_law__2503⟩ ?_
  refine lw_argB (k := 6) (a0 := 1) (a4 := 5) hx hb hXs hbl hS1 hl1 rfl rfl hLL (by omega) (by decide) ⟨dl_law__2504, dl_law__2505, dl_law__2507, dl_law__2509, dl_law__2510⟩ ?_
  exact lc_tail (p2 := 2511) (vs := [.int (xs (i + 1)), .int (xs (i + 2)), .int (xs (i + 3)), .int (xs (i + 4)), .int (xs (i + 5)), .int (xs (i + 6))]) C ok hMR (by decide) (by decide) (show rx_ML[282]? = some rx_m282 from rfl) ⟨rl_w1904, rl_w1905, rl_w1906⟩ rx_p282 rfl rfl hm hl1 (by omega) (by omega) ⟨dl_law__2511, dl_law__2514, dl_law__2516, dl_law__2517, dl_law__2520, dl_law__2522, dl_law__2527, dl_law__2529, dl_law__2532, dl_law__2533, dl_law__2534, dl_law__2535, dl_law__2537, dl_law__2538, dl_law__2539, dl_law__2544⟩ (by decide) kk
theorem lc_image {p : Program} {l : Launch} {e : Env} {s : State} {m : MethodId} {args : Array Value} {below : List Frame} {meth : Method} {c : Code} {H : Heap} {locs : List Loc} {cells slots : Nat} {Q : State → Prop} {Z : rx_Z} {ls : Array Slot} {sb L i cB bB : Nat} {xs : Nat → Int32} {X : XS} (C : LW p l s m args c sb L xs Z) (hi : i + 9 ≤ L) (hI : LI Z s cB bB H locs X) (hl : lv_has ls 8 [(0, .ref sb), (1, .ref cB), (2, .ref bB), (3, .ref (bB + 475)), (4, .int (nI i))]) (hrm : cells + 6 ≤ 601024 ∧ slots + 74 ≤ 7293034) (kk : ∀ (H' : Heap) (locs' : List Loc) (ls' : Array Slot) (X' : XS), LI Z s cB bB H' locs' X' → lv_has ls' 8 [(0, .ref sb), (1, .ref cB), (2, .ref bB), (3, .ref (bB + 475)), (4, .int (nI i))] → W p l e room_1 s m args below meth c H' locs' (cells + 6) (slots + 74) Q (F0 m 2623 ls' [])) (hj : JXq 3 Z 157 285 [] cB bB X) : W p l e room_1 s m args below meth c H locs cells slots Q (F0 m 2547 ls []) := by
  obtain ⟨hx, hb, hml, hown, hts, hXs, hbl, hLL, hl9, hz1, hz2, hbs, hK, hX⟩ := id C
  obtain ⟨o, X', ok, hCL, hMR⟩ := hj
  have hS := hI.S hz1 hz2
  refine lv_aload_n hx hb dl_law__2547 rfl (lv_at hl 1 rfl) ?_
  refine lc_cls (vs := []) (rest := []) C ok hCL hI (show rx_ML[157]? = some rx_m157 from rfl) ⟨rl_w456, rl_w457, rl_w458⟩ rx_p157 rfl rfl hl.1 (by decide) dl_law__2548 hrm (fun y H1 locs1 ho hm => ?_)
  have hS1 := hm.S hz1 hz2
  refine lv_aload_n hx hb dl_law__2551 rfl (lv_at hl 2 rfl) ?_
  exact lc_mod (p2 := 2552) (vs := []) C ho hMR (show rx_ML[285]? = some rx_m285 from rfl) ⟨rl_w1908, rl_w1909, rl_w1910⟩ rx_p285 rfl rfl hm hl (by omega) (by omega) ⟨dl_law__2552, dl_law__2555⟩ (by decide) kk
theorem lc_restore {p : Program} {l : Launch} {e : Env} {s : State} {m : MethodId} {args : Array Value} {below : List Frame} {meth : Method} {c : Code} {H : Heap} {locs : List Loc} {cells slots : Nat} {Q : State → Prop} {Z : rx_Z} {ls : Array Slot} {sb L i cB bB : Nat} {xs : Nat → Int32} {X : XS} (C : LW p l s m args c sb L xs Z) (hi : i + 9 ≤ L) (hI : LI Z s cB bB H locs X) (hl : lv_has ls 8 [(0, .ref sb), (1, .ref cB), (2, .ref bB), (3, .ref (bB + 475)), (4, .int (nI i))]) (hrm : cells + 6 ≤ 601024 ∧ slots + 74 ≤ 7293034) (kk : ∀ (H' : Heap) (locs' : List Loc) (ls' : Array Slot) (X' : XS), LI Z s cB bB H' locs' X' → lv_has ls' 8 [(0, .ref sb), (1, .ref cB), (2, .ref bB), (3, .ref (bB + 475)), (4, .int (nI i))] → W p l e room_1 s m args below meth c H' locs' (cells + 6) (slots + 74) Q (F0 m 2623 ls' [])) (hj : JXq 3 Z 158 286 [] cB bB X) : W p l e room_1 s m args below meth c H locs cells slots Q (F0 m 2560 ls []) := by
  obtain ⟨hx, hb, hml, hown, hts, hXs, hbl, hLL, hl9, hz1, hz2, hbs, hK, hX⟩ := id C
  obtain ⟨o, X', ok, hCL, hMR⟩ := hj
  have hS := hI.S hz1 hz2
  refine lv_aload_n hx hb dl_law__2560 rfl (lv_at hl 1 rfl) ?_
  refine lc_cls (vs := []) (rest := []) C ok hCL hI (show rx_ML[158]? = some rx_m158 from rfl) ⟨rl_w478, rl_w479, rl_w480⟩ rx_p158 rfl rfl hl.1 (by decide) dl_law__2561 hrm (fun y H1 locs1 ho hm => ?_)
  have hS1 := hm.S hz1 hz2
  refine lv_aload_n hx hb dl_law__2564 rfl (lv_at hl 2 rfl) ?_
  exact lc_mod (p2 := 2565) (vs := []) C ho hMR (show rx_ML[286]? = some rx_m286 from rfl) ⟨rl_w1920, rl_w1921, rl_w1922⟩ rx_p286 rfl rfl hm hl (by omega) (by omega) ⟨dl_law__2565, dl_law__2568⟩ (by decide) kk
theorem lc_status {p : Program} {l : Launch} {e : Env} {s : State} {m : MethodId} {args : Array Value} {below : List Frame} {meth : Method} {c : Code} {H : Heap} {locs : List Loc} {cells slots : Nat} {Q : State → Prop} {Z : rx_Z} {ls : Array Slot} {sb L i cB bB : Nat} {xs : Nat → Int32} {X : XS} (C : LW p l s m args c sb L xs Z) (hi : i + 9 ≤ L) (hI : LI Z s cB bB H locs X) (hl : lv_has ls 8 [(0, .ref sb), (1, .ref cB), (2, .ref bB), (3, .ref (bB + 475)), (4, .int (nI i))]) (hrm : cells + 6 ≤ 601024 ∧ slots + 74 ≤ 7293034) (kk : ∀ (H' : Heap) (locs' : List Loc) (ls' : Array Slot) (X' : XS), LI Z s cB bB H' locs' X' → lv_has ls' 8 [(0, .ref sb), (1, .ref cB), (2, .ref bB), (3, .ref (bB + 475)), (4, .int (nI i))] → W p l e room_1 s m args below meth c H' locs' (cells + 6) (slots + 74) Q (F0 m 2623 ls' [])) (hj : JXq 3 Z 159 287 [.int (xs (i + 1))] cB bB X) : W p l e room_1 s m args below meth c H locs cells slots Q (F0 m 2573 ls []) := by
  obtain ⟨hx, hb, hml, hown, hts, hXs, hbl, hLL, hl9, hz1, hz2, hbs, hK, hX⟩ := id C
  obtain ⟨o, X', ok, hCL, hMR⟩ := hj
  have hS := hI.S hz1 hz2
  refine lv_aload_n hx hb dl_law__2573 rfl (lv_at hl 1 rfl) ?_
  refine lw_argC (k := 1) (a0 := 0) (a4 := 4) hx hb hXs hbl hS hl rfl rfl hLL (by omega) (by decide) ⟨dl_law__2574, dl_law__2575, dl_law__2577, dl_law__2578, dl_law__2579⟩ ?_
  refine lc_cls (vs := [.int (xs (i + 1))]) (rest := []) C ok hCL hI (show rx_ML[159]? = some rx_m159 from rfl) ⟨rl_w482, rl_w483, rl_w484⟩ rx_p159 rfl rfl hl.1 (by decide) dl_law__2580 hrm (fun y H1 locs1 ho hm => ?_)
  have hS1 := hm.S hz1 hz2
  refine lv_aload_n hx hb dl_law__2583 rfl (lv_at hl 2 rfl) ?_
  refine lw_argC (k := 1) (a0 := 0) (a4 := 4) hx hb hXs hbl hS1 hl rfl rfl hLL (by omega) (by decide) ⟨dl_law__2584, dl_law__2585, dl_law__2587, dl_law__2588, dl_law__2589⟩ ?_
  exact lc_mod (p2 := 2590) (vs := [.int (xs (i + 1))]) C ho hMR (show rx_ML[287]? = some rx_m287 from rfl) ⟨rl_w1924, rl_w1925, rl_w1926⟩ rx_p287 rfl rfl hm hl (by omega) (by omega) ⟨dl_law__2590, dl_law__2593⟩ (by decide) kk
theorem lc_count {p : Program} {l : Launch} {e : Env} {s : State} {m : MethodId} {args : Array Value} {below : List Frame} {meth : Method} {c : Code} {H : Heap} {locs : List Loc} {cells slots : Nat} {Q : State → Prop} {Z : rx_Z} {ls : Array Slot} {sb L i cB bB : Nat} {xs : Nat → Int32} {X : XS} (C : LW p l s m args c sb L xs Z) (hi : i + 9 ≤ L) (hI : LI Z s cB bB H locs X) (hl : lv_has ls 8 [(0, .ref sb), (1, .ref cB), (2, .ref bB), (3, .ref (bB + 475)), (4, .int (nI i))]) (hrm : cells + 6 ≤ 601024 ∧ slots + 74 ≤ 7293034) (kk : ∀ (H' : Heap) (locs' : List Loc) (ls' : Array Slot) (X' : XS), LI Z s cB bB H' locs' X' → lv_has ls' 8 [(0, .ref sb), (1, .ref cB), (2, .ref bB), (3, .ref (bB + 475)), (4, .int (nI i))] → W p l e room_1 s m args below meth c H' locs' (cells + 6) (slots + 74) Q (F0 m 2623 ls' [])) (hj : JXq 3 Z 160 288 [.int (xs (i + 1))] cB bB X) : W p l e room_1 s m args below meth c H locs cells slots Q (F0 m 2598 ls []) := by
  obtain ⟨hx, hb, hml, hown, hts, hXs, hbl, hLL, hl9, hz1, hz2, hbs, hK, hX⟩ := id C
  obtain ⟨o, X', ok, hCL, hMR⟩ := hj
  have hS := hI.S hz1 hz2
  refine lv_aload_n hx hb dl_law__2598 rfl (lv_at hl 1 rfl) ?_
  refine lw_argC (k := 1) (a0 := 0) (a4 := 4) hx hb hXs hbl hS hl rfl rfl hLL (by omega) (by decide) ⟨dl_law__2599, dl_law__2600, dl_law__2602, dl_law__2603, dl_law__2604⟩ ?_
  refine lc_cls (vs := [.int (xs (i + 1))]) (rest := []) C ok hCL hI (show rx_ML[160]? = some rx_m160 from rfl) ⟨rl_w486, rl_w487, rl_w488⟩ rx_p160 rfl rfl hl.1 (by decide) dl_law__2605 hrm (fun y H1 locs1 ho hm => ?_)
  have hS1 := hm.S hz1 hz2
  refine lv_aload_n hx hb dl_law__2608 rfl (lv_at hl 2 rfl) ?_
  refine lw_argC (k := 1) (a0 := 0) (a4 := 4) hx hb hXs hbl hS1 hl rfl rfl hLL (by omega) (by decide) ⟨dl_law__2609, dl_law__2610, dl_law__2612, dl_law__2613, dl_law__2614⟩ ?_
  exact lc_mod (p2 := 2615) (vs := [.int (xs (i + 1))]) C ho hMR (show rx_ML[288]? = some rx_m288 from rfl) ⟨rl_w1928, rl_w1929, rl_w1930⟩ rx_p288 rfl rfl hm hl (by omega) (by omega) ⟨dl_law__2615, dl_law__2618⟩ (by decide) kk
