/-! every wrapper of the law -/
theorem wr_dukedom {l : Launch} {Z : rx_Z} {h h1 : Nat → Option rx_E} {ι ι1 : Nat → Nat → Int32} {w w1 : Nat × Nat} {cB ob : Nat} {o : Value ⊕ Nat} {v1 : Int32} (hl9 : l.stackTraces = false) (hbs : Z.2.1 = Z.2.2.1.size) (ok : okO 0 o) (hob : Z.2.1 ≤ ob) (hoc : rz_oc h cB 11) (hf : rz_f Z 40 121 (.ref cB :: [.int v1]) (rz_mk h ι, w) = some (ouC o, (rz_mk h1 ι1, w1))) (hw1 : w1.1 ≤ w.1 + 5) (hw2 : w1.2 ≤ w.2 + 68) (hout : ∃ f, h1 ob = some (.inl (1, 1, f))) : vx_Met l yL_dukedom (Cond.codeWith yL_dukedom cL_dukedom 4 (some .int) [(0, 9, 12, 13)] :: rx_tbl) wrM (rx_Pc Z (wrX Z) [.ref cB, .int v1, .ref ob] (rz_mk h ι, w)) (wQc Z 0 o h1 ι1 w1 ob) (fun _ _ _ => False) 6 74 (fun q => Z.2.1 ≤ q) := by
  refine vx_ofWH (cc := cL_dukedom) (maxL := 4) (ret := some .int) (hh := [(0, 9, 12, 13)]) (by decide) rfl ?_
  intro p e s m args below meth c s₁ B hml hv
  obtain ⟨rfl, hH, hK, hX⟩ := hv
  have hx := B.exec
  have hb := B.bytes
  have hr := B.returns
  have hlocks := B.notSynchronized
  have hts0 := atoms_spec (ws := Cond.codeWith yL_dukedom cL_dukedom 4 (some .int) [(0, 9, 12, 13)] :: rx_tbl) B.pre
  have hts := fun w hw => hts0 w (List.mem_cons_of_mem _ hw)
  have hown : s.vm.findClass "FarthestHeirLaw" = some m.cls := findClass_of_methodNamed B.named
  have htab := vx_table (x := yL_dukedom) B (hts0 _ List.mem_cons_self)
  have hl := lv_entry ([.ref cB, .int v1, .ref ob]) (n := 4) (Nat.le_of_ble_eq_true rfl)
  rw [lg_entry_eq]
  generalize (lg_sl ([.ref cB, .int v1, .ref ob]) ++ List.replicate (4 - (lg_sl ([.ref cB, .int v1, .ref ob])).length) Slot.unset).toArray = ls at hl ⊢
  have hl : lv_has ls 4 [(0, .ref cB), (1, .int v1), (2, .ref ob)] := hl
  refine lv_aload_n hx hb dl_dukedom_0 rfl (lv_at hl 2 rfl) ?_
  refine lv_iconst (v := 0) hx hb dl_dukedom_1 (by decide) ?_
  refine lv_aload_n hx hb dl_dukedom_2 rfl (lv_at hl 0 rfl) ?_
  refine lv_iload_n hx hb dl_dukedom_3 rfl (lv_at hl 1 rfl) ?_
  refine wr_main (t := 0) (n := 1) (pv := 4) (pl := 8) (pe := 15) (vs := [.int v1]) hl9 hbs ⟨hx, hb, hml, hown, hts⟩ hr hlocks hK hX (show rx_ML[121]? = some rx_m121 from rfl) ⟨rl_w494, rl_w495, rl_w496⟩ rx_p121 rfl hoc rfl hf hw1 hw2 ok hout hob hH (lv_sub hl [] rfl) ⟨by decide, by decide, by decide, by decide⟩ dl_dukedom_4 (Or.inl ⟨by decide, dl_dukedom_7, rfl⟩) dl_dukedom_8 dl_dukedom_9 (by decide) ⟨dl_dukedom_15, dl_dukedom_16⟩ ?_
  intro k hk H9 locs9 q9 ce nx cl sl hnx hH9 hlo9 hce hcv hcl9 hc9 hs9
  obtain rfl := okO.e0 (show okO 0 (.inr k) by rw [← hk]; exact ok)
  exact wr_catch (pr := 13) (ei := 3) (pre := []) hx hb hr hlocks hown (lv_sub hl [] rfl) hX hk (Or.inl rfl) htab (fun z hz => nomatch hz) (by decide) (by decide) (hts _ rl_w493) hnx hH9 hlo9 hce hcv hcl9 hc9 hs9 (Or.inl ⟨dl_dukedom_12, rfl, rfl⟩) (by decide) dl_dukedom_13 (by decide) dl_dukedom_14
theorem wr_law {l : Launch} {Z : rx_Z} {h h1 : Nat → Option rx_E} {ι ι1 : Nat → Nat → Int32} {w w1 : Nat × Nat} {cB ob : Nat} {o : Value ⊕ Nat} {v1 : Int32} (hl9 : l.stackTraces = false) (hbs : Z.2.1 = Z.2.2.1.size) (ok : okO 0 o) (hob : Z.2.1 ≤ ob) (hoc : rz_oc h cB 11) (hf : rz_f Z 40 122 (.ref cB :: [.int v1]) (rz_mk h ι, w) = some (ouC o, (rz_mk h1 ι1, w1))) (hw1 : w1.1 ≤ w.1 + 5) (hw2 : w1.2 ≤ w.2 + 68) (hout : ∃ f, h1 ob = some (.inl (1, 1, f))) : vx_Met l yL_law (Cond.codeWith yL_law cL_law 4 (some .int) [(0, 9, 12, 13)] :: rx_tbl) wrM (rx_Pc Z (wrX Z) [.ref cB, .int v1, .ref ob] (rz_mk h ι, w)) (wQc Z 0 o h1 ι1 w1 ob) (fun _ _ _ => False) 6 74 (fun q => Z.2.1 ≤ q) := by
  refine vx_ofWH (cc := cL_law) (maxL := 4) (ret := some .int) (hh := [(0, 9, 12, 13)]) (by decide) rfl ?_
  intro p e s m args below meth c s₁ B hml hv
  obtain ⟨rfl, hH, hK, hX⟩ := hv
  have hx := B.exec
  have hb := B.bytes
  have hr := B.returns
  have hlocks := B.notSynchronized
  have hts0 := atoms_spec (ws := Cond.codeWith yL_law cL_law 4 (some .int) [(0, 9, 12, 13)] :: rx_tbl) B.pre
  have hts := fun w hw => hts0 w (List.mem_cons_of_mem _ hw)
  have hown : s.vm.findClass "FarthestHeirLaw" = some m.cls := findClass_of_methodNamed B.named
  have htab := vx_table (x := yL_law) B (hts0 _ List.mem_cons_self)
  have hl := lv_entry ([.ref cB, .int v1, .ref ob]) (n := 4) (Nat.le_of_ble_eq_true rfl)
  rw [lg_entry_eq]
  generalize (lg_sl ([.ref cB, .int v1, .ref ob]) ++ List.replicate (4 - (lg_sl ([.ref cB, .int v1, .ref ob])).length) Slot.unset).toArray = ls at hl ⊢
  have hl : lv_has ls 4 [(0, .ref cB), (1, .int v1), (2, .ref ob)] := hl
  refine lv_aload_n hx hb dl_law_0 rfl (lv_at hl 2 rfl) ?_
  refine lv_iconst (v := 0) hx hb dl_law_1 (by decide) ?_
  refine lv_aload_n hx hb dl_law_2 rfl (lv_at hl 0 rfl) ?_
  refine lv_iload_n hx hb dl_law_3 rfl (lv_at hl 1 rfl) ?_
  refine wr_main (t := 0) (n := 1) (pv := 4) (pl := 8) (pe := 15) (vs := [.int v1]) hl9 hbs ⟨hx, hb, hml, hown, hts⟩ hr hlocks hK hX (show rx_ML[122]? = some rx_m122 from rfl) ⟨rl_w710, rl_w711, rl_w712⟩ rx_p122 rfl hoc rfl hf hw1 hw2 ok hout hob hH (lv_sub hl [] rfl) ⟨by decide, by decide, by decide, by decide⟩ dl_law_4 (Or.inl ⟨by decide, dl_law_7, rfl⟩) dl_law_8 dl_law_9 (by decide) ⟨dl_law_15, dl_law_16⟩ ?_
  intro k hk H9 locs9 q9 ce nx cl sl hnx hH9 hlo9 hce hcv hcl9 hc9 hs9
  obtain rfl := okO.e0 (show okO 0 (.inr k) by rw [← hk]; exact ok)
  exact wr_catch (pr := 13) (ei := 3) (pre := []) hx hb hr hlocks hown (lv_sub hl [] rfl) hX hk (Or.inl rfl) htab (fun z hz => nomatch hz) (by decide) (by decide) (hts _ rl_w493) hnx hH9 hlo9 hce hcv hcl9 hc9 hs9 (Or.inl ⟨dl_law_12, rfl, rfl⟩) (by decide) dl_law_13 (by decide) dl_law_14
theorem wr_work {l : Launch} {Z : rx_Z} {h h1 : Nat → Option rx_E} {ι ι1 : Nat → Nat → Int32} {w w1 : Nat × Nat} {cB ob : Nat} {o : Value ⊕ Nat} {v1 : Int32} (hl9 : l.stackTraces = false) (hbs : Z.2.1 = Z.2.2.1.size) (ok : okO 0 o) (hob : Z.2.1 ≤ ob) (hoc : rz_oc h cB 11) (hf : rz_f Z 40 123 (.ref cB :: [.int v1]) (rz_mk h ι, w) = some (ouC o, (rz_mk h1 ι1, w1))) (hw1 : w1.1 ≤ w.1 + 5) (hw2 : w1.2 ≤ w.2 + 68) (hout : ∃ f, h1 ob = some (.inl (1, 1, f))) : vx_Met l yL_work (Cond.codeWith yL_work cL_work 4 (some .int) [(0, 9, 12, 13)] :: rx_tbl) wrM (rx_Pc Z (wrX Z) [.ref cB, .int v1, .ref ob] (rz_mk h ι, w)) (wQc Z 0 o h1 ι1 w1 ob) (fun _ _ _ => False) 6 74 (fun q => Z.2.1 ≤ q) := by
  refine vx_ofWH (cc := cL_work) (maxL := 4) (ret := some .int) (hh := [(0, 9, 12, 13)]) (by decide) rfl ?_
  intro p e s m args below meth c s₁ B hml hv
  obtain ⟨rfl, hH, hK, hX⟩ := hv
  have hx := B.exec
  have hb := B.bytes
  have hr := B.returns
  have hlocks := B.notSynchronized
  have hts0 := atoms_spec (ws := Cond.codeWith yL_work cL_work 4 (some .int) [(0, 9, 12, 13)] :: rx_tbl) B.pre
  have hts := fun w hw => hts0 w (List.mem_cons_of_mem _ hw)
  have hown : s.vm.findClass "FarthestHeirLaw" = some m.cls := findClass_of_methodNamed B.named
  have htab := vx_table (x := yL_work) B (hts0 _ List.mem_cons_self)
  have hl := lv_entry ([.ref cB, .int v1, .ref ob]) (n := 4) (Nat.le_of_ble_eq_true rfl)
  rw [lg_entry_eq]
  generalize (lg_sl ([.ref cB, .int v1, .ref ob]) ++ List.replicate (4 - (lg_sl ([.ref cB, .int v1, .ref ob])).length) Slot.unset).toArray = ls at hl ⊢
  have hl : lv_has ls 4 [(0, .ref cB), (1, .int v1), (2, .ref ob)] := hl
  refine lv_aload_n hx hb dl_work_0 rfl (lv_at hl 2 rfl) ?_
  refine lv_iconst (v := 0) hx hb dl_work_1 (by decide) ?_
  refine lv_aload_n hx hb dl_work_2 rfl (lv_at hl 0 rfl) ?_
  refine lv_iload_n hx hb dl_work_3 rfl (lv_at hl 1 rfl) ?_
  refine wr_main (t := 0) (n := 1) (pv := 4) (pl := 8) (pe := 15) (vs := [.int v1]) hl9 hbs ⟨hx, hb, hml, hown, hts⟩ hr hlocks hK hX (show rx_ML[123]? = some rx_m123 from rfl) ⟨rl_w796, rl_w797, rl_w798⟩ rx_p123 rfl hoc rfl hf hw1 hw2 ok hout hob hH (lv_sub hl [] rfl) ⟨by decide, by decide, by decide, by decide⟩ dl_work_4 (Or.inl ⟨by decide, dl_work_7, rfl⟩) dl_work_8 dl_work_9 (by decide) ⟨dl_work_15, dl_work_16⟩ ?_
  intro k hk H9 locs9 q9 ce nx cl sl hnx hH9 hlo9 hce hcv hcl9 hc9 hs9
  obtain rfl := okO.e0 (show okO 0 (.inr k) by rw [← hk]; exact ok)
  exact wr_catch (pr := 13) (ei := 3) (pre := []) hx hb hr hlocks hown (lv_sub hl [] rfl) hX hk (Or.inl rfl) htab (fun z hz => nomatch hz) (by decide) (by decide) (hts _ rl_w493) hnx hH9 hlo9 hce hcv hcl9 hc9 hs9 (Or.inl ⟨dl_work_12, rfl, rfl⟩) (by decide) dl_work_13 (by decide) dl_work_14
theorem wr_book {l : Launch} {Z : rx_Z} {h h1 : Nat → Option rx_E} {ι ι1 : Nat → Nat → Int32} {w w1 : Nat × Nat} {cB ob : Nat} {o : Value ⊕ Nat} {v1 : Int32} (hl9 : l.stackTraces = false) (hbs : Z.2.1 = Z.2.2.1.size) (ok : okO 0 o) (hob : Z.2.1 ≤ ob) (hoc : rz_oc h cB 11) (hf : rz_f Z 40 124 (.ref cB :: [.int v1]) (rz_mk h ι, w) = some (ouC o, (rz_mk h1 ι1, w1))) (hw1 : w1.1 ≤ w.1 + 5) (hw2 : w1.2 ≤ w.2 + 68) (hout : ∃ f, h1 ob = some (.inl (1, 1, f))) : vx_Met l yL_book (Cond.codeWith yL_book cL_book 4 (some .int) [(0, 9, 12, 13)] :: rx_tbl) wrM (rx_Pc Z (wrX Z) [.ref cB, .int v1, .ref ob] (rz_mk h ι, w)) (wQc Z 0 o h1 ι1 w1 ob) (fun _ _ _ => False) 6 74 (fun q => Z.2.1 ≤ q) := by
  refine vx_ofWH (cc := cL_book) (maxL := 4) (ret := some .int) (hh := [(0, 9, 12, 13)]) (by decide) rfl ?_
  intro p e s m args below meth c s₁ B hml hv
  obtain ⟨rfl, hH, hK, hX⟩ := hv
  have hx := B.exec
  have hb := B.bytes
  have hr := B.returns
  have hlocks := B.notSynchronized
  have hts0 := atoms_spec (ws := Cond.codeWith yL_book cL_book 4 (some .int) [(0, 9, 12, 13)] :: rx_tbl) B.pre
  have hts := fun w hw => hts0 w (List.mem_cons_of_mem _ hw)
  have hown : s.vm.findClass "FarthestHeirLaw" = some m.cls := findClass_of_methodNamed B.named
  have htab := vx_table (x := yL_book) B (hts0 _ List.mem_cons_self)
  have hl := lv_entry ([.ref cB, .int v1, .ref ob]) (n := 4) (Nat.le_of_ble_eq_true rfl)
  rw [lg_entry_eq]
  generalize (lg_sl ([.ref cB, .int v1, .ref ob]) ++ List.replicate (4 - (lg_sl ([.ref cB, .int v1, .ref ob])).length) Slot.unset).toArray = ls at hl ⊢
  have hl : lv_has ls 4 [(0, .ref cB), (1, .int v1), (2, .ref ob)] := hl
  refine lv_aload_n hx hb dl_book_0 rfl (lv_at hl 2 rfl) ?_
  refine lv_iconst (v := 0) hx hb dl_book_1 (by decide) ?_
  refine lv_aload_n hx hb dl_book_2 rfl (lv_at hl 0 rfl) ?_
  refine lv_iload_n hx hb dl_book_3 rfl (lv_at hl 1 rfl) ?_
  refine wr_main (t := 0) (n := 1) (pv := 4) (pl := 8) (pe := 15) (vs := [.int v1]) hl9 hbs ⟨hx, hb, hml, hown, hts⟩ hr hlocks hK hX (show rx_ML[124]? = some rx_m124 from rfl) ⟨rl_w933, rl_w934, rl_w935⟩ rx_p124 rfl hoc rfl hf hw1 hw2 ok hout hob hH (lv_sub hl [] rfl) ⟨by decide, by decide, by decide, by decide⟩ dl_book_4 (Or.inl ⟨by decide, dl_book_7, rfl⟩) dl_book_8 dl_book_9 (by decide) ⟨dl_book_15, dl_book_16⟩ ?_
  intro k hk H9 locs9 q9 ce nx cl sl hnx hH9 hlo9 hce hcv hcl9 hc9 hs9
  obtain rfl := okO.e0 (show okO 0 (.inr k) by rw [← hk]; exact ok)
  exact wr_catch (pr := 13) (ei := 3) (pre := []) hx hb hr hlocks hown (lv_sub hl [] rfl) hX hk (Or.inl rfl) htab (fun z hz => nomatch hz) (by decide) (by decide) (hts _ rl_w493) hnx hH9 hlo9 hce hcv hcl9 hc9 hs9 (Or.inl ⟨dl_book_12, rfl, rfl⟩) (by decide) dl_book_13 (by decide) dl_book_14
theorem wr_told {l : Launch} {Z : rx_Z} {h h1 : Nat → Option rx_E} {ι ι1 : Nat → Nat → Int32} {w w1 : Nat × Nat} {cB ob : Nat} {o : Value ⊕ Nat} {v1 : Int32} (hl9 : l.stackTraces = false) (hbs : Z.2.1 = Z.2.2.1.size) (ok : okO 0 o) (hob : Z.2.1 ≤ ob) (hoc : rz_oc h cB 11) (hf : rz_f Z 40 127 (.ref cB :: [.int v1]) (rz_mk h ι, w) = some (ouC o, (rz_mk h1 ι1, w1))) (hw1 : w1.1 ≤ w.1 + 5) (hw2 : w1.2 ≤ w.2 + 68) (hout : ∃ f, h1 ob = some (.inl (1, 1, f))) : vx_Met l yL_told (Cond.codeWith yL_told cL_told 4 (some .int) [(0, 9, 12, 13)] :: rx_tbl) wrM (rx_Pc Z (wrX Z) [.ref cB, .int v1, .ref ob] (rz_mk h ι, w)) (wQc Z 0 o h1 ι1 w1 ob) (fun _ _ _ => False) 6 74 (fun q => Z.2.1 ≤ q) := by
  refine vx_ofWH (cc := cL_told) (maxL := 4) (ret := some .int) (hh := [(0, 9, 12, 13)]) (by decide) rfl ?_
  intro p e s m args below meth c s₁ B hml hv
  obtain ⟨rfl, hH, hK, hX⟩ := hv
  have hx := B.exec
  have hb := B.bytes
  have hr := B.returns
  have hlocks := B.notSynchronized
  have hts0 := atoms_spec (ws := Cond.codeWith yL_told cL_told 4 (some .int) [(0, 9, 12, 13)] :: rx_tbl) B.pre
  have hts := fun w hw => hts0 w (List.mem_cons_of_mem _ hw)
  have hown : s.vm.findClass "FarthestHeirLaw" = some m.cls := findClass_of_methodNamed B.named
  have htab := vx_table (x := yL_told) B (hts0 _ List.mem_cons_self)
  have hl := lv_entry ([.ref cB, .int v1, .ref ob]) (n := 4) (Nat.le_of_ble_eq_true rfl)
  rw [lg_entry_eq]
  generalize (lg_sl ([.ref cB, .int v1, .ref ob]) ++ List.replicate (4 - (lg_sl ([.ref cB, .int v1, .ref ob])).length) Slot.unset).toArray = ls at hl ⊢
  have hl : lv_has ls 4 [(0, .ref cB), (1, .int v1), (2, .ref ob)] := hl
  refine lv_aload_n hx hb dl_told_0 rfl (lv_at hl 2 rfl) ?_
  refine lv_iconst (v := 0) hx hb dl_told_1 (by decide) ?_
  refine lv_aload_n hx hb dl_told_2 rfl (lv_at hl 0 rfl) ?_
  refine lv_iload_n hx hb dl_told_3 rfl (lv_at hl 1 rfl) ?_
  refine wr_main (t := 0) (n := 1) (pv := 4) (pl := 8) (pe := 15) (vs := [.int v1]) hl9 hbs ⟨hx, hb, hml, hown, hts⟩ hr hlocks hK hX (show rx_ML[127]? = some rx_m127 from rfl) ⟨rl_w953, rl_w954, rl_w955⟩ rx_p127 rfl hoc rfl hf hw1 hw2 ok hout hob hH (lv_sub hl [] rfl) ⟨by decide, by decide, by decide, by decide⟩ dl_told_4 (Or.inl ⟨by decide, dl_told_7, rfl⟩) dl_told_8 dl_told_9 (by decide) ⟨dl_told_15, dl_told_16⟩ ?_
  intro k hk H9 locs9 q9 ce nx cl sl hnx hH9 hlo9 hce hcv hcl9 hc9 hs9
  obtain rfl := okO.e0 (show okO 0 (.inr k) by rw [← hk]; exact ok)
  exact wr_catch (pr := 13) (ei := 3) (pre := []) hx hb hr hlocks hown (lv_sub hl [] rfl) hX hk (Or.inl rfl) htab (fun z hz => nomatch hz) (by decide) (by decide) (hts _ rl_w493) hnx hH9 hlo9 hce hcv hcl9 hc9 hs9 (Or.inl ⟨dl_told_12, rfl, rfl⟩) (by decide) dl_told_13 (by decide) dl_told_14
theorem wr_person {l : Launch} {Z : rx_Z} {h h1 : Nat → Option rx_E} {ι ι1 : Nat → Nat → Int32} {w w1 : Nat × Nat} {cB ob : Nat} {o : Value ⊕ Nat} {v1 v2 : Int32} (hl9 : l.stackTraces = false) (hbs : Z.2.1 = Z.2.2.1.size) (ok : okO 2 o) (hob : Z.2.1 ≤ ob) (hoc : rz_oc h cB 11) (hf : rz_f Z 40 128 (.ref cB :: [.int v1, .int v2]) (rz_mk h ι, w) = some (ouC o, (rz_mk h1 ι1, w1))) (hw1 : w1.1 ≤ w.1 + 5) (hw2 : w1.2 ≤ w.2 + 68) (hout : ∃ f, h1 ob = some (.inl (1, 1, f))) : vx_Met l yL_person (Cond.codeWith yL_person cL_person 5 (some .int) [(0, 10, 13, 31), (0, 10, 17, 13)] :: rx_tbl) wrM (rx_Pc Z (wrX Z) [.ref cB, .int v1, .int v2, .ref ob] (rz_mk h ι, w)) (wQc Z 2 o h1 ι1 w1 ob) (fun _ _ _ => False) 6 74 (fun q => Z.2.1 ≤ q) := by
  refine vx_ofWH (cc := cL_person) (maxL := 5) (ret := some .int) (hh := [(0, 10, 13, 31), (0, 10, 17, 13)]) (by decide) rfl ?_
  intro p e s m args below meth c s₁ B hml hv
  obtain ⟨rfl, hH, hK, hX⟩ := hv
  have hx := B.exec
  have hb := B.bytes
  have hr := B.returns
  have hlocks := B.notSynchronized
  have hts0 := atoms_spec (ws := Cond.codeWith yL_person cL_person 5 (some .int) [(0, 10, 13, 31), (0, 10, 17, 13)] :: rx_tbl) B.pre
  have hts := fun w hw => hts0 w (List.mem_cons_of_mem _ hw)
  have hown : s.vm.findClass "FarthestHeirLaw" = some m.cls := findClass_of_methodNamed B.named
  have htab := vx_table (x := yL_person) B (hts0 _ List.mem_cons_self)
  have hl := lv_entry ([.ref cB, .int v1, .int v2, .ref ob]) (n := 5) (Nat.le_of_ble_eq_true rfl)
  rw [lg_entry_eq]
  generalize (lg_sl ([.ref cB, .int v1, .int v2, .ref ob]) ++ List.replicate (5 - (lg_sl ([.ref cB, .int v1, .int v2, .ref ob])).length) Slot.unset).toArray = ls at hl ⊢
  have hl : lv_has ls 5 [(0, .ref cB), (1, .int v1), (2, .int v2), (3, .ref ob)] := hl
  refine lv_aload_n hx hb dl_person_0 rfl (lv_at hl 3 rfl) ?_
  refine lv_iconst (v := 0) hx hb dl_person_1 (by decide) ?_
  refine lv_aload_n hx hb dl_person_2 rfl (lv_at hl 0 rfl) ?_
  refine lv_iload_n hx hb dl_person_3 rfl (lv_at hl 1 rfl) ?_
  refine lv_iload_n hx hb dl_person_4 rfl (lv_at hl 2 rfl) ?_
  refine wr_main (t := 2) (n := 2) (pv := 5) (pl := 9) (pe := 21) (vs := [.int v1, .int v2]) hl9 hbs ⟨hx, hb, hml, hown, hts⟩ hr hlocks hK hX (show rx_ML[128]? = some rx_m128 from rfl) ⟨rl_w966, rl_w967, rl_w968⟩ rx_p128 rfl hoc rfl hf hw1 hw2 ok hout hob hH (lv_sub hl [] rfl) ⟨by decide, by decide, by decide, by decide⟩ dl_person_5 (Or.inl ⟨by decide, dl_person_8, rfl⟩) dl_person_9 dl_person_10 (by decide) ⟨dl_person_21, dl_person_22⟩ ?_
  intro k hk H9 locs9 q9 ce nx cl sl hnx hH9 hlo9 hce hcv hcl9 hc9 hs9
  rcases okO.e2 (show okO 2 (.inr k) by rw [← hk]; exact ok) with rfl | rfl
  · exact wr_catch (pr := 19) (ei := 4) (pre := [_]) hx hb hr hlocks hown (lv_sub hl [] rfl) hX hk (Or.inl rfl) htab (fun z hz => by rw [List.mem_singleton.mp hz]; exact Or.inr ⟨by decide, "java/util/NoSuchElementException", hts _ rl_w965, hX.2⟩) (by decide) (by decide) (hts _ rl_w493) hnx hH9 hlo9 hce hcv hcl9 hc9 hs9 (Or.inr ⟨dl_person_17, rfl⟩) (by decide) dl_person_19 (by decide) dl_person_20
  · exact wr_catch (pr := 15) (ei := 4) (pre := []) hx hb hr hlocks hown (lv_sub hl [] rfl) hX hk (Or.inr rfl) htab (fun z hz => nomatch hz) (by decide) (by decide) (hts _ rl_w965) hnx hH9 hlo9 hce hcv hcl9 hc9 hs9 (Or.inr ⟨dl_person_13, rfl⟩) (by decide) dl_person_15 (by decide) dl_person_16
theorem wr_far {l : Launch} {Z : rx_Z} {h h1 : Nat → Option rx_E} {ι ι1 : Nat → Nat → Int32} {w w1 : Nat × Nat} {cB ob : Nat} {o : Value ⊕ Nat} {v1 v2 : Int32} (hl9 : l.stackTraces = false) (hbs : Z.2.1 = Z.2.2.1.size) (ok : okO 1 o) (hob : Z.2.1 ≤ ob) (hoc : rz_oc h cB 11) (hf : rz_f Z 40 129 (.ref cB :: [.int v1, .int v2]) (rz_mk h ι, w) = some (ouC o, (rz_mk h1 ι1, w1))) (hw1 : w1.1 ≤ w.1 + 5) (hw2 : w1.2 ≤ w.2 + 68) (hout : ∃ f, h1 ob = some (.inl (1, 1, f))) : vx_Met l yL_far (Cond.codeWith yL_far cL_far 5 (some .int) [(0, 10, 13, 31)] :: rx_tbl) wrM (rx_Pc Z (wrX Z) [.ref cB, .int v1, .int v2, .ref ob] (rz_mk h ι, w)) (wQc Z 1 o h1 ι1 w1 ob) (fun _ _ _ => False) 6 74 (fun q => Z.2.1 ≤ q) := by
  refine vx_ofWH (cc := cL_far) (maxL := 5) (ret := some .int) (hh := [(0, 10, 13, 31)]) (by decide) rfl ?_
  intro p e s m args below meth c s₁ B hml hv
  obtain ⟨rfl, hH, hK, hX⟩ := hv
  have hx := B.exec
  have hb := B.bytes
  have hr := B.returns
  have hlocks := B.notSynchronized
  have hts0 := atoms_spec (ws := Cond.codeWith yL_far cL_far 5 (some .int) [(0, 10, 13, 31)] :: rx_tbl) B.pre
  have hts := fun w hw => hts0 w (List.mem_cons_of_mem _ hw)
  have hown : s.vm.findClass "FarthestHeirLaw" = some m.cls := findClass_of_methodNamed B.named
  have htab := vx_table (x := yL_far) B (hts0 _ List.mem_cons_self)
  have hl := lv_entry ([.ref cB, .int v1, .int v2, .ref ob]) (n := 5) (Nat.le_of_ble_eq_true rfl)
  rw [lg_entry_eq]
  generalize (lg_sl ([.ref cB, .int v1, .int v2, .ref ob]) ++ List.replicate (5 - (lg_sl ([.ref cB, .int v1, .int v2, .ref ob])).length) Slot.unset).toArray = ls at hl ⊢
  have hl : lv_has ls 5 [(0, .ref cB), (1, .int v1), (2, .int v2), (3, .ref ob)] := hl
  refine lv_aload_n hx hb dl_far_0 rfl (lv_at hl 3 rfl) ?_
  refine lv_iconst (v := 0) hx hb dl_far_1 (by decide) ?_
  refine lv_aload_n hx hb dl_far_2 rfl (lv_at hl 0 rfl) ?_
  refine lv_iload_n hx hb dl_far_3 rfl (lv_at hl 1 rfl) ?_
  refine lv_iload_n hx hb dl_far_4 rfl (lv_at hl 2 rfl) ?_
  refine wr_main (t := 1) (n := 2) (pv := 5) (pl := 9) (pe := 17) (vs := [.int v1, .int v2]) hl9 hbs ⟨hx, hb, hml, hown, hts⟩ hr hlocks hK hX (show rx_ML[129]? = some rx_m129 from rfl) ⟨rl_w1002, rl_w1003, rl_w1004⟩ rx_p129 rfl hoc rfl hf hw1 hw2 ok hout hob hH (lv_sub hl [] rfl) ⟨by decide, by decide, by decide, by decide⟩ dl_far_5 (Or.inl ⟨by decide, dl_far_8, rfl⟩) dl_far_9 dl_far_10 (by decide) ⟨dl_far_17, dl_far_18⟩ ?_
  intro k hk H9 locs9 q9 ce nx cl sl hnx hH9 hlo9 hce hcv hcl9 hc9 hs9
  obtain rfl := okO.e1 (show okO 1 (.inr k) by rw [← hk]; exact ok)
  exact wr_catch (pr := 15) (ei := 4) (pre := []) hx hb hr hlocks hown (lv_sub hl [] rfl) hX hk (Or.inr rfl) htab (fun z hz => nomatch hz) (by decide) (by decide) (hts _ rl_w965) hnx hH9 hlo9 hce hcv hcl9 hc9 hs9 (Or.inr ⟨dl_far_13, rfl⟩) (by decide) dl_far_15 (by decide) dl_far_16
theorem wr_would {l : Launch} {Z : rx_Z} {h h1 : Nat → Option rx_E} {ι ι1 : Nat → Nat → Int32} {w w1 : Nat × Nat} {cB ob : Nat} {o : Value ⊕ Nat} {v1 v2 v3 v4 v5 v6 v7 v8 : Int32} (hl9 : l.stackTraces = false) (hbs : Z.2.1 = Z.2.2.1.size) (ok : okO 0 o) (hob : Z.2.1 ≤ ob) (hoc : rz_oc h cB 11) (hf : rz_f Z 40 130 (.ref cB :: [.int v1, .int v2, .int v3, .int v4, .int v5, .int v6, .int v7, .int v8]) (rz_mk h ι, w) = some (ouC o, (rz_mk h1 ι1, w1))) (hw1 : w1.1 ≤ w.1 + 5) (hw2 : w1.2 ≤ w.2 + 68) (hout : ∃ f, h1 ob = some (.inl (1, 1, f))) : vx_Met l yL_would (Cond.codeWith yL_would cL_would 11 (some .int) [(0, 22, 25, 13)] :: rx_tbl) wrM (rx_Pc Z (wrX Z) [.ref cB, .int v1, .int v2, .int v3, .int v4, .int v5, .int v6, .int v7, .int v8, .ref ob] (rz_mk h ι, w)) (wQc Z 0 o h1 ι1 w1 ob) (fun _ _ _ => False) 6 74 (fun q => Z.2.1 ≤ q) := by
  refine vx_ofWH (cc := cL_would) (maxL := 11) (ret := some .int) (hh := [(0, 22, 25, 13)]) (by decide) rfl ?_
  intro p e s m args below meth c s₁ B hml hv
  obtain ⟨rfl, hH, hK, hX⟩ := hv
  have hx := B.exec
  have hb := B.bytes
  have hr := B.returns
  have hlocks := B.notSynchronized
  have hts0 := atoms_spec (ws := Cond.codeWith yL_would cL_would 11 (some .int) [(0, 22, 25, 13)] :: rx_tbl) B.pre
  have hts := fun w hw => hts0 w (List.mem_cons_of_mem _ hw)
  have hown : s.vm.findClass "FarthestHeirLaw" = some m.cls := findClass_of_methodNamed B.named
  have htab := vx_table (x := yL_would) B (hts0 _ List.mem_cons_self)
  have hl := lv_entry ([.ref cB, .int v1, .int v2, .int v3, .int v4, .int v5, .int v6, .int v7, .int v8, .ref ob]) (n := 11) (Nat.le_of_ble_eq_true rfl)
  rw [lg_entry_eq]
  generalize (lg_sl ([.ref cB, .int v1, .int v2, .int v3, .int v4, .int v5, .int v6, .int v7, .int v8, .ref ob]) ++ List.replicate (11 - (lg_sl ([.ref cB, .int v1, .int v2, .int v3, .int v4, .int v5, .int v6, .int v7, .int v8, .ref ob])).length) Slot.unset).toArray = ls at hl ⊢
  have hl : lv_has ls 11 [(0, .ref cB), (1, .int v1), (2, .int v2), (3, .int v3), (4, .int v4), (5, .int v5), (6, .int v6), (7, .int v7), (8, .int v8), (9, .ref ob)] := hl
  refine lv_aload hx hb dl_would_0 (lv_at hl 9 rfl) ?_
  refine lv_iconst (v := 0) hx hb dl_would_2 (by decide) ?_
  refine lv_aload_n hx hb dl_would_3 rfl (lv_at hl 0 rfl) ?_
  refine lv_iload_n hx hb dl_would_4 rfl (lv_at hl 1 rfl) ?_
  refine lv_iload_n hx hb dl_would_5 rfl (lv_at hl 2 rfl) ?_
  refine lv_iload_n hx hb dl_would_6 rfl (lv_at hl 3 rfl) ?_
  refine lv_iload hx hb dl_would_7 (lv_at hl 4 rfl) ?_
  refine lv_iload hx hb dl_would_9 (lv_at hl 5 rfl) ?_
  refine lv_iload hx hb dl_would_11 (lv_at hl 6 rfl) ?_
  refine lv_iload hx hb dl_would_13 (lv_at hl 7 rfl) ?_
  refine lv_iload hx hb dl_would_15 (lv_at hl 8 rfl) ?_
  refine wr_main (t := 0) (n := 8) (pv := 17) (pl := 21) (pe := 29) (vs := [.int v1, .int v2, .int v3, .int v4, .int v5, .int v6, .int v7, .int v8]) hl9 hbs ⟨hx, hb, hml, hown, hts⟩ hr hlocks hK hX (show rx_ML[130]? = some rx_m130 from rfl) ⟨rl_w1010, rl_w1011, rl_w1012⟩ rx_p130 rfl hoc rfl hf hw1 hw2 ok hout hob hH (lv_sub hl [] rfl) ⟨by decide, by decide, by decide, by decide⟩ dl_would_17 (Or.inl ⟨by decide, dl_would_20, rfl⟩) dl_would_21 dl_would_22 (by decide) ⟨dl_would_29, dl_would_30⟩ ?_
  intro k hk H9 locs9 q9 ce nx cl sl hnx hH9 hlo9 hce hcv hcl9 hc9 hs9
  obtain rfl := okO.e0 (show okO 0 (.inr k) by rw [← hk]; exact ok)
  exact wr_catch (pr := 27) (ei := 10) (pre := []) hx hb hr hlocks hown (lv_sub hl [] rfl) hX hk (Or.inl rfl) htab (fun z hz => nomatch hz) (by decide) (by decide) (hts _ rl_w493) hnx hH9 hlo9 hce hcv hcl9 hc9 hs9 (Or.inr ⟨dl_would_25, rfl⟩) (by decide) dl_would_27 (by decide) dl_would_28
theorem wr_ahead {l : Launch} {Z : rx_Z} {h h1 : Nat → Option rx_E} {ι ι1 : Nat → Nat → Int32} {w w1 : Nat × Nat} {cB ob : Nat} {o : Value ⊕ Nat} {v1 v2 : Int32} (hl9 : l.stackTraces = false) (hbs : Z.2.1 = Z.2.2.1.size) (ok : okO 0 o) (hob : Z.2.1 ≤ ob) (hoc : rz_oc h cB 11) (hf : rz_f Z 40 131 (.ref cB :: [.int v1, .int v2]) (rz_mk h ι, w) = some (ouC o, (rz_mk h1 ι1, w1))) (hw1 : w1.1 ≤ w.1 + 5) (hw2 : w1.2 ≤ w.2 + 68) (hout : ∃ f, h1 ob = some (.inl (1, 1, f))) : vx_Met l yL_ahead (Cond.codeWith yL_ahead cL_ahead 5 (some .int) [(0, 10, 13, 13)] :: rx_tbl) wrM (rx_Pc Z (wrX Z) [.ref cB, .int v1, .int v2, .ref ob] (rz_mk h ι, w)) (wQc Z 0 o h1 ι1 w1 ob) (fun _ _ _ => False) 6 74 (fun q => Z.2.1 ≤ q) := by
  refine vx_ofWH (cc := cL_ahead) (maxL := 5) (ret := some .int) (hh := [(0, 10, 13, 13)]) (by decide) rfl ?_
  intro p e s m args below meth c s₁ B hml hv
  obtain ⟨rfl, hH, hK, hX⟩ := hv
  have hx := B.exec
  have hb := B.bytes
  have hr := B.returns
  have hlocks := B.notSynchronized
  have hts0 := atoms_spec (ws := Cond.codeWith yL_ahead cL_ahead 5 (some .int) [(0, 10, 13, 13)] :: rx_tbl) B.pre
  have hts := fun w hw => hts0 w (List.mem_cons_of_mem _ hw)
  have hown : s.vm.findClass "FarthestHeirLaw" = some m.cls := findClass_of_methodNamed B.named
  have htab := vx_table (x := yL_ahead) B (hts0 _ List.mem_cons_self)
  have hl := lv_entry ([.ref cB, .int v1, .int v2, .ref ob]) (n := 5) (Nat.le_of_ble_eq_true rfl)
  rw [lg_entry_eq]
  generalize (lg_sl ([.ref cB, .int v1, .int v2, .ref ob]) ++ List.replicate (5 - (lg_sl ([.ref cB, .int v1, .int v2, .ref ob])).length) Slot.unset).toArray = ls at hl ⊢
  have hl : lv_has ls 5 [(0, .ref cB), (1, .int v1), (2, .int v2), (3, .ref ob)] := hl
  refine lv_aload_n hx hb dl_ahead_0 rfl (lv_at hl 3 rfl) ?_
  refine lv_iconst (v := 0) hx hb dl_ahead_1 (by decide) ?_
  refine lv_aload_n hx hb dl_ahead_2 rfl (lv_at hl 0 rfl) ?_
  refine lv_iload_n hx hb dl_ahead_3 rfl (lv_at hl 1 rfl) ?_
  refine lv_iload_n hx hb dl_ahead_4 rfl (lv_at hl 2 rfl) ?_
  refine wr_main (t := 0) (n := 2) (pv := 5) (pl := 9) (pe := 17) (vs := [.int v1, .int v2]) hl9 hbs ⟨hx, hb, hml, hown, hts⟩ hr hlocks hK hX (show rx_ML[131]? = some rx_m131 from rfl) ⟨rl_w1019, rl_w1020, rl_w1021⟩ rx_p131 rfl hoc rfl hf hw1 hw2 ok hout hob hH (lv_sub hl [] rfl) ⟨by decide, by decide, by decide, by decide⟩ dl_ahead_5 (Or.inl ⟨by decide, dl_ahead_8, rfl⟩) dl_ahead_9 dl_ahead_10 (by decide) ⟨dl_ahead_17, dl_ahead_18⟩ ?_
  intro k hk H9 locs9 q9 ce nx cl sl hnx hH9 hlo9 hce hcv hcl9 hc9 hs9
  obtain rfl := okO.e0 (show okO 0 (.inr k) by rw [← hk]; exact ok)
  exact wr_catch (pr := 15) (ei := 4) (pre := []) hx hb hr hlocks hown (lv_sub hl [] rfl) hX hk (Or.inl rfl) htab (fun z hz => nomatch hz) (by decide) (by decide) (hts _ rl_w493) hnx hH9 hlo9 hce hcv hcl9 hc9 hs9 (Or.inr ⟨dl_ahead_13, rfl⟩) (by decide) dl_ahead_15 (by decide) dl_ahead_16
theorem wr_after {l : Launch} {Z : rx_Z} {h h1 : Nat → Option rx_E} {ι ι1 : Nat → Nat → Int32} {w w1 : Nat × Nat} {cB ob : Nat} {o : Value ⊕ Nat} {v1 : Int32} (hl9 : l.stackTraces = false) (hbs : Z.2.1 = Z.2.2.1.size) (ok : okO 0 o) (hob : Z.2.1 ≤ ob) (hoc : rz_oc h cB 11) (hf : rz_f Z 40 132 (.ref cB :: [.int v1]) (rz_mk h ι, w) = some (ouC o, (rz_mk h1 ι1, w1))) (hw1 : w1.1 ≤ w.1 + 5) (hw2 : w1.2 ≤ w.2 + 68) (hout : ∃ f, h1 ob = some (.inl (1, 1, f))) : vx_Met l yL_after (Cond.codeWith yL_after cL_after 4 (some .int) [(0, 9, 12, 13)] :: rx_tbl) wrM (rx_Pc Z (wrX Z) [.ref cB, .int v1, .ref ob] (rz_mk h ι, w)) (wQc Z 0 o h1 ι1 w1 ob) (fun _ _ _ => False) 6 74 (fun q => Z.2.1 ≤ q) := by
  refine vx_ofWH (cc := cL_after) (maxL := 4) (ret := some .int) (hh := [(0, 9, 12, 13)]) (by decide) rfl ?_
  intro p e s m args below meth c s₁ B hml hv
  obtain ⟨rfl, hH, hK, hX⟩ := hv
  have hx := B.exec
  have hb := B.bytes
  have hr := B.returns
  have hlocks := B.notSynchronized
  have hts0 := atoms_spec (ws := Cond.codeWith yL_after cL_after 4 (some .int) [(0, 9, 12, 13)] :: rx_tbl) B.pre
  have hts := fun w hw => hts0 w (List.mem_cons_of_mem _ hw)
  have hown : s.vm.findClass "FarthestHeirLaw" = some m.cls := findClass_of_methodNamed B.named
  have htab := vx_table (x := yL_after) B (hts0 _ List.mem_cons_self)
  have hl := lv_entry ([.ref cB, .int v1, .ref ob]) (n := 4) (Nat.le_of_ble_eq_true rfl)
  rw [lg_entry_eq]
  generalize (lg_sl ([.ref cB, .int v1, .ref ob]) ++ List.replicate (4 - (lg_sl ([.ref cB, .int v1, .ref ob])).length) Slot.unset).toArray = ls at hl ⊢
  have hl : lv_has ls 4 [(0, .ref cB), (1, .int v1), (2, .ref ob)] := hl
  refine lv_aload_n hx hb dl_after_0 rfl (lv_at hl 2 rfl) ?_
  refine lv_iconst (v := 0) hx hb dl_after_1 (by decide) ?_
  refine lv_aload_n hx hb dl_after_2 rfl (lv_at hl 0 rfl) ?_
  refine lv_iload_n hx hb dl_after_3 rfl (lv_at hl 1 rfl) ?_
  refine wr_main (t := 0) (n := 1) (pv := 4) (pl := 8) (pe := 15) (vs := [.int v1]) hl9 hbs ⟨hx, hb, hml, hown, hts⟩ hr hlocks hK hX (show rx_ML[132]? = some rx_m132 from rfl) ⟨rl_w1031, rl_w1032, rl_w1033⟩ rx_p132 rfl hoc rfl hf hw1 hw2 ok hout hob hH (lv_sub hl [] rfl) ⟨by decide, by decide, by decide, by decide⟩ dl_after_4 (Or.inl ⟨by decide, dl_after_7, rfl⟩) dl_after_8 dl_after_9 (by decide) ⟨dl_after_15, dl_after_16⟩ ?_
  intro k hk H9 locs9 q9 ce nx cl sl hnx hH9 hlo9 hce hcv hcl9 hc9 hs9
  obtain rfl := okO.e0 (show okO 0 (.inr k) by rw [← hk]; exact ok)
  exact wr_catch (pr := 13) (ei := 3) (pre := []) hx hb hr hlocks hown (lv_sub hl [] rfl) hX hk (Or.inl rfl) htab (fun z hz => nomatch hz) (by decide) (by decide) (hts _ rl_w493) hnx hH9 hlo9 hce hcv hcl9 hc9 hs9 (Or.inl ⟨dl_after_12, rfl, rfl⟩) (by decide) dl_after_13 (by decide) dl_after_14
theorem wr_feint {l : Launch} {Z : rx_Z} {h h1 : Nat → Option rx_E} {ι ι1 : Nat → Nat → Int32} {w w1 : Nat × Nat} {cB ob : Nat} {o : Value ⊕ Nat} {v1 v2 : Int32} (hl9 : l.stackTraces = false) (hbs : Z.2.1 = Z.2.2.1.size) (ok : okO 2 o) (hob : Z.2.1 ≤ ob) (hoc : rz_oc h cB 11) (hf : rz_f Z 40 133 (.ref cB :: [.int v1, .int v2]) (rz_mk h ι, w) = some (ouC o, (rz_mk h1 ι1, w1))) (hw1 : w1.1 ≤ w.1 + 5) (hw2 : w1.2 ≤ w.2 + 68) (hout : ∃ f, h1 ob = some (.inl (1, 1, f))) : vx_Met l yL_feint (Cond.codeWith yL_feint cL_feint 5 (some .int) [(0, 10, 13, 31), (0, 10, 17, 13)] :: rx_tbl) wrM (rx_Pc Z (wrX Z) [.ref cB, .int v1, .int v2, .ref ob] (rz_mk h ι, w)) (wQc Z 2 o h1 ι1 w1 ob) (fun _ _ _ => False) 6 74 (fun q => Z.2.1 ≤ q) := by
  refine vx_ofWH (cc := cL_feint) (maxL := 5) (ret := some .int) (hh := [(0, 10, 13, 31), (0, 10, 17, 13)]) (by decide) rfl ?_
  intro p e s m args below meth c s₁ B hml hv
  obtain ⟨rfl, hH, hK, hX⟩ := hv
  have hx := B.exec
  have hb := B.bytes
  have hr := B.returns
  have hlocks := B.notSynchronized
  have hts0 := atoms_spec (ws := Cond.codeWith yL_feint cL_feint 5 (some .int) [(0, 10, 13, 31), (0, 10, 17, 13)] :: rx_tbl) B.pre
  have hts := fun w hw => hts0 w (List.mem_cons_of_mem _ hw)
  have hown : s.vm.findClass "FarthestHeirLaw" = some m.cls := findClass_of_methodNamed B.named
  have htab := vx_table (x := yL_feint) B (hts0 _ List.mem_cons_self)
  have hl := lv_entry ([.ref cB, .int v1, .int v2, .ref ob]) (n := 5) (Nat.le_of_ble_eq_true rfl)
  rw [lg_entry_eq]
  generalize (lg_sl ([.ref cB, .int v1, .int v2, .ref ob]) ++ List.replicate (5 - (lg_sl ([.ref cB, .int v1, .int v2, .ref ob])).length) Slot.unset).toArray = ls at hl ⊢
  have hl : lv_has ls 5 [(0, .ref cB), (1, .int v1), (2, .int v2), (3, .ref ob)] := hl
  refine lv_aload_n hx hb dl_feint_0 rfl (lv_at hl 3 rfl) ?_
  refine lv_iconst (v := 0) hx hb dl_feint_1 (by decide) ?_
  refine lv_aload_n hx hb dl_feint_2 rfl (lv_at hl 0 rfl) ?_
  refine lv_iload_n hx hb dl_feint_3 rfl (lv_at hl 1 rfl) ?_
  refine lv_iload_n hx hb dl_feint_4 rfl (lv_at hl 2 rfl) ?_
  refine wr_main (t := 2) (n := 2) (pv := 5) (pl := 9) (pe := 21) (vs := [.int v1, .int v2]) hl9 hbs ⟨hx, hb, hml, hown, hts⟩ hr hlocks hK hX (show rx_ML[133]? = some rx_m133 from rfl) ⟨rl_w1039, rl_w1040, rl_w1041⟩ rx_p133 rfl hoc rfl hf hw1 hw2 ok hout hob hH (lv_sub hl [] rfl) ⟨by decide, by decide, by decide, by decide⟩ dl_feint_5 (Or.inl ⟨by decide, dl_feint_8, rfl⟩) dl_feint_9 dl_feint_10 (by decide) ⟨dl_feint_21, dl_feint_22⟩ ?_
  intro k hk H9 locs9 q9 ce nx cl sl hnx hH9 hlo9 hce hcv hcl9 hc9 hs9
  rcases okO.e2 (show okO 2 (.inr k) by rw [← hk]; exact ok) with rfl | rfl
  · exact wr_catch (pr := 19) (ei := 4) (pre := [_]) hx hb hr hlocks hown (lv_sub hl [] rfl) hX hk (Or.inl rfl) htab (fun z hz => by rw [List.mem_singleton.mp hz]; exact Or.inr ⟨by decide, "java/util/NoSuchElementException", hts _ rl_w965, hX.2⟩) (by decide) (by decide) (hts _ rl_w493) hnx hH9 hlo9 hce hcv hcl9 hc9 hs9 (Or.inr ⟨dl_feint_17, rfl⟩) (by decide) dl_feint_19 (by decide) dl_feint_20
  · exact wr_catch (pr := 15) (ei := 4) (pre := []) hx hb hr hlocks hown (lv_sub hl [] rfl) hX hk (Or.inr rfl) htab (fun z hz => nomatch hz) (by decide) (by decide) (hts _ rl_w965) hnx hH9 hlo9 hce hcv hcl9 hc9 hs9 (Or.inr ⟨dl_feint_13, rfl⟩) (by decide) dl_feint_15 (by decide) dl_feint_16
theorem wr_ring {l : Launch} {Z : rx_Z} {h h1 : Nat → Option rx_E} {ι ι1 : Nat → Nat → Int32} {w w1 : Nat × Nat} {cB ob : Nat} {o : Value ⊕ Nat} {v1 v2 : Int32} (hl9 : l.stackTraces = false) (hbs : Z.2.1 = Z.2.2.1.size) (ok : okO 2 o) (hob : Z.2.1 ≤ ob) (hoc : rz_oc h cB 11) (hf : rz_f Z 40 134 (.ref cB :: [.int v1, .int v2]) (rz_mk h ι, w) = some (ouC o, (rz_mk h1 ι1, w1))) (hw1 : w1.1 ≤ w.1 + 5) (hw2 : w1.2 ≤ w.2 + 68) (hout : ∃ f, h1 ob = some (.inl (1, 1, f))) : vx_Met l yL_ring (Cond.codeWith yL_ring cL_ring 5 (some .int) [(0, 10, 13, 31), (0, 10, 17, 13)] :: rx_tbl) wrM (rx_Pc Z (wrX Z) [.ref cB, .int v1, .int v2, .ref ob] (rz_mk h ι, w)) (wQc Z 2 o h1 ι1 w1 ob) (fun _ _ _ => False) 6 74 (fun q => Z.2.1 ≤ q) := by
  refine vx_ofWH (cc := cL_ring) (maxL := 5) (ret := some .int) (hh := [(0, 10, 13, 31), (0, 10, 17, 13)]) (by decide) rfl ?_
  intro p e s m args below meth c s₁ B hml hv
  obtain ⟨rfl, hH, hK, hX⟩ := hv
  have hx := B.exec
  have hb := B.bytes
  have hr := B.returns
  have hlocks := B.notSynchronized
  have hts0 := atoms_spec (ws := Cond.codeWith yL_ring cL_ring 5 (some .int) [(0, 10, 13, 31), (0, 10, 17, 13)] :: rx_tbl) B.pre
  have hts := fun w hw => hts0 w (List.mem_cons_of_mem _ hw)
  have hown : s.vm.findClass "FarthestHeirLaw" = some m.cls := findClass_of_methodNamed B.named
  have htab := vx_table (x := yL_ring) B (hts0 _ List.mem_cons_self)
  have hl := lv_entry ([.ref cB, .int v1, .int v2, .ref ob]) (n := 5) (Nat.le_of_ble_eq_true rfl)
  rw [lg_entry_eq]
  generalize (lg_sl ([.ref cB, .int v1, .int v2, .ref ob]) ++ List.replicate (5 - (lg_sl ([.ref cB, .int v1, .int v2, .ref ob])).length) Slot.unset).toArray = ls at hl ⊢
  have hl : lv_has ls 5 [(0, .ref cB), (1, .int v1), (2, .int v2), (3, .ref ob)] := hl
  refine lv_aload_n hx hb dl_ring_0 rfl (lv_at hl 3 rfl) ?_
  refine lv_iconst (v := 0) hx hb dl_ring_1 (by decide) ?_
  refine lv_aload_n hx hb dl_ring_2 rfl (lv_at hl 0 rfl) ?_
  refine lv_iload_n hx hb dl_ring_3 rfl (lv_at hl 1 rfl) ?_
  refine lv_iload_n hx hb dl_ring_4 rfl (lv_at hl 2 rfl) ?_
  refine wr_main (t := 2) (n := 2) (pv := 5) (pl := 9) (pe := 21) (vs := [.int v1, .int v2]) hl9 hbs ⟨hx, hb, hml, hown, hts⟩ hr hlocks hK hX (show rx_ML[134]? = some rx_m134 from rfl) ⟨rl_w1082, rl_w1083, rl_w1084⟩ rx_p134 rfl hoc rfl hf hw1 hw2 ok hout hob hH (lv_sub hl [] rfl) ⟨by decide, by decide, by decide, by decide⟩ dl_ring_5 (Or.inl ⟨by decide, dl_ring_8, rfl⟩) dl_ring_9 dl_ring_10 (by decide) ⟨dl_ring_21, dl_ring_22⟩ ?_
  intro k hk H9 locs9 q9 ce nx cl sl hnx hH9 hlo9 hce hcv hcl9 hc9 hs9
  rcases okO.e2 (show okO 2 (.inr k) by rw [← hk]; exact ok) with rfl | rfl
  · exact wr_catch (pr := 19) (ei := 4) (pre := [_]) hx hb hr hlocks hown (lv_sub hl [] rfl) hX hk (Or.inl rfl) htab (fun z hz => by rw [List.mem_singleton.mp hz]; exact Or.inr ⟨by decide, "java/util/NoSuchElementException", hts _ rl_w965, hX.2⟩) (by decide) (by decide) (hts _ rl_w493) hnx hH9 hlo9 hce hcv hcl9 hc9 hs9 (Or.inr ⟨dl_ring_17, rfl⟩) (by decide) dl_ring_19 (by decide) dl_ring_20
  · exact wr_catch (pr := 15) (ei := 4) (pre := []) hx hb hr hlocks hown (lv_sub hl [] rfl) hX hk (Or.inr rfl) htab (fun z hz => nomatch hz) (by decide) (by decide) (hts _ rl_w965) hnx hH9 hlo9 hce hcv hcl9 hc9 hs9 (Or.inr ⟨dl_ring_13, rfl⟩) (by decide) dl_ring_15 (by decide) dl_ring_16
theorem wr_like {l : Launch} {Z : rx_Z} {h h1 : Nat → Option rx_E} {ι ι1 : Nat → Nat → Int32} {w w1 : Nat × Nat} {cB ob : Nat} {o : Value ⊕ Nat} {v1 : Int32} (hl9 : l.stackTraces = false) (hbs : Z.2.1 = Z.2.2.1.size) (ok : okO 0 o) (hob : Z.2.1 ≤ ob) (hoc : rz_oc h cB 11) (hf : rz_f Z 40 135 (.ref cB :: [.int v1]) (rz_mk h ι, w) = some (ouC o, (rz_mk h1 ι1, w1))) (hw1 : w1.1 ≤ w.1 + 5) (hw2 : w1.2 ≤ w.2 + 68) (hout : ∃ f, h1 ob = some (.inl (1, 1, f))) : vx_Met l yL_like (Cond.codeWith yL_like cL_like 4 (some .int) [(0, 9, 12, 13)] :: rx_tbl) wrM (rx_Pc Z (wrX Z) [.ref cB, .int v1, .ref ob] (rz_mk h ι, w)) (wQc Z 0 o h1 ι1 w1 ob) (fun _ _ _ => False) 6 74 (fun q => Z.2.1 ≤ q) := by
  refine vx_ofWH (cc := cL_like) (maxL := 4) (ret := some .int) (hh := [(0, 9, 12, 13)]) (by decide) rfl ?_
  intro p e s m args below meth c s₁ B hml hv
  obtain ⟨rfl, hH, hK, hX⟩ := hv
  have hx := B.exec
  have hb := B.bytes
  have hr := B.returns
  have hlocks := B.notSynchronized
  have hts0 := atoms_spec (ws := Cond.codeWith yL_like cL_like 4 (some .int) [(0, 9, 12, 13)] :: rx_tbl) B.pre
  have hts := fun w hw => hts0 w (List.mem_cons_of_mem _ hw)
  have hown : s.vm.findClass "FarthestHeirLaw" = some m.cls := findClass_of_methodNamed B.named
  have htab := vx_table (x := yL_like) B (hts0 _ List.mem_cons_self)
  have hl := lv_entry ([.ref cB, .int v1, .ref ob]) (n := 4) (Nat.le_of_ble_eq_true rfl)
  rw [lg_entry_eq]
  generalize (lg_sl ([.ref cB, .int v1, .ref ob]) ++ List.replicate (4 - (lg_sl ([.ref cB, .int v1, .ref ob])).length) Slot.unset).toArray = ls at hl ⊢
  have hl : lv_has ls 4 [(0, .ref cB), (1, .int v1), (2, .ref ob)] := hl
  refine lv_aload_n hx hb dl_like_0 rfl (lv_at hl 2 rfl) ?_
  refine lv_iconst (v := 0) hx hb dl_like_1 (by decide) ?_
  refine lv_aload_n hx hb dl_like_2 rfl (lv_at hl 0 rfl) ?_
  refine lv_iload_n hx hb dl_like_3 rfl (lv_at hl 1 rfl) ?_
  refine wr_main (t := 0) (n := 1) (pv := 4) (pl := 8) (pe := 15) (vs := [.int v1]) hl9 hbs ⟨hx, hb, hml, hown, hts⟩ hr hlocks hK hX (show rx_ML[135]? = some rx_m135 from rfl) ⟨rl_w1099, rl_w1100, rl_w1101⟩ rx_p135 rfl hoc rfl hf hw1 hw2 ok hout hob hH (lv_sub hl [] rfl) ⟨by decide, by decide, by decide, by decide⟩ dl_like_4 (Or.inl ⟨by decide, dl_like_7, rfl⟩) dl_like_8 dl_like_9 (by decide) ⟨dl_like_15, dl_like_16⟩ ?_
  intro k hk H9 locs9 q9 ce nx cl sl hnx hH9 hlo9 hce hcv hcl9 hc9 hs9
  obtain rfl := okO.e0 (show okO 0 (.inr k) by rw [← hk]; exact ok)
  exact wr_catch (pr := 13) (ei := 3) (pre := []) hx hb hr hlocks hown (lv_sub hl [] rfl) hX hk (Or.inl rfl) htab (fun z hz => nomatch hz) (by decide) (by decide) (hts _ rl_w493) hnx hH9 hlo9 hce hcv hcl9 hc9 hs9 (Or.inl ⟨dl_like_12, rfl, rfl⟩) (by decide) dl_like_13 (by decide) dl_like_14
theorem wr_ask {l : Launch} {Z : rx_Z} {h h1 : Nat → Option rx_E} {ι ι1 : Nat → Nat → Int32} {w w1 : Nat × Nat} {cB ob : Nat} {o : Value ⊕ Nat} {v1 : Int32} (hl9 : l.stackTraces = false) (hbs : Z.2.1 = Z.2.2.1.size) (ok : okO 0 o) (hob : Z.2.1 ≤ ob) (hoc : rz_oc h cB 11) (hf : rz_f Z 40 136 (.ref cB :: [.int v1]) (rz_mk h ι, w) = some (ouC o, (rz_mk h1 ι1, w1))) (hw1 : w1.1 ≤ w.1 + 5) (hw2 : w1.2 ≤ w.2 + 68) (hout : ∃ f, h1 ob = some (.inl (1, 1, f))) : vx_Met l yL_ask (Cond.codeWith yL_ask cL_ask 4 (some .int) [(0, 9, 12, 13)] :: rx_tbl) wrM (rx_Pc Z (wrX Z) [.ref cB, .int v1, .ref ob] (rz_mk h ι, w)) (wQc Z 0 o h1 ι1 w1 ob) (fun _ _ _ => False) 6 74 (fun q => Z.2.1 ≤ q) := by
  refine vx_ofWH (cc := cL_ask) (maxL := 4) (ret := some .int) (hh := [(0, 9, 12, 13)]) (by decide) rfl ?_
  intro p e s m args below meth c s₁ B hml hv
  obtain ⟨rfl, hH, hK, hX⟩ := hv
  have hx := B.exec
  have hb := B.bytes
  have hr := B.returns
  have hlocks := B.notSynchronized
  have hts0 := atoms_spec (ws := Cond.codeWith yL_ask cL_ask 4 (some .int) [(0, 9, 12, 13)] :: rx_tbl) B.pre
  have hts := fun w hw => hts0 w (List.mem_cons_of_mem _ hw)
  have hown : s.vm.findClass "FarthestHeirLaw" = some m.cls := findClass_of_methodNamed B.named
  have htab := vx_table (x := yL_ask) B (hts0 _ List.mem_cons_self)
  have hl := lv_entry ([.ref cB, .int v1, .ref ob]) (n := 4) (Nat.le_of_ble_eq_true rfl)
  rw [lg_entry_eq]
  generalize (lg_sl ([.ref cB, .int v1, .ref ob]) ++ List.replicate (4 - (lg_sl ([.ref cB, .int v1, .ref ob])).length) Slot.unset).toArray = ls at hl ⊢
  have hl : lv_has ls 4 [(0, .ref cB), (1, .int v1), (2, .ref ob)] := hl
  refine lv_aload_n hx hb dl_ask_0 rfl (lv_at hl 2 rfl) ?_
  refine lv_iconst (v := 0) hx hb dl_ask_1 (by decide) ?_
  refine lv_aload_n hx hb dl_ask_2 rfl (lv_at hl 0 rfl) ?_
  refine lv_iload_n hx hb dl_ask_3 rfl (lv_at hl 1 rfl) ?_
  refine wr_main (t := 0) (n := 1) (pv := 4) (pl := 8) (pe := 15) (vs := [.int v1]) hl9 hbs ⟨hx, hb, hml, hown, hts⟩ hr hlocks hK hX (show rx_ML[136]? = some rx_m136 from rfl) ⟨rl_w1125, rl_w1126, rl_w1127⟩ rx_p136 rfl hoc rfl hf hw1 hw2 ok hout hob hH (lv_sub hl [] rfl) ⟨by decide, by decide, by decide, by decide⟩ dl_ask_4 (Or.inl ⟨by decide, dl_ask_7, rfl⟩) dl_ask_8 dl_ask_9 (by decide) ⟨dl_ask_15, dl_ask_16⟩ ?_
  intro k hk H9 locs9 q9 ce nx cl sl hnx hH9 hlo9 hce hcv hcl9 hc9 hs9
  obtain rfl := okO.e0 (show okO 0 (.inr k) by rw [← hk]; exact ok)
  exact wr_catch (pr := 13) (ei := 3) (pre := []) hx hb hr hlocks hown (lv_sub hl [] rfl) hX hk (Or.inl rfl) htab (fun z hz => nomatch hz) (by decide) (by decide) (hts _ rl_w493) hnx hH9 hlo9 hce hcv hcl9 hc9 hs9 (Or.inl ⟨dl_ask_12, rfl, rfl⟩) (by decide) dl_ask_13 (by decide) dl_ask_14
theorem wr_mate {l : Launch} {Z : rx_Z} {h h1 : Nat → Option rx_E} {ι ι1 : Nat → Nat → Int32} {w w1 : Nat × Nat} {cB ob : Nat} {o : Value ⊕ Nat} {v1 : Int32} (hl9 : l.stackTraces = false) (hbs : Z.2.1 = Z.2.2.1.size) (ok : okO 1 o) (hob : Z.2.1 ≤ ob) (hoc : rz_oc h cB 11) (hf : rz_f Z 40 138 (.ref cB :: [.int v1]) (rz_mk h ι, w) = some (ouC o, (rz_mk h1 ι1, w1))) (hw1 : w1.1 ≤ w.1 + 5) (hw2 : w1.2 ≤ w.2 + 68) (hout : ∃ f, h1 ob = some (.inl (1, 1, f))) : vx_Met l yL_mate (Cond.codeWith yL_mate cL_mate 4 (some .int) [(0, 9, 12, 31)] :: rx_tbl) wrM (rx_Pc Z (wrX Z) [.ref cB, .int v1, .ref ob] (rz_mk h ι, w)) (wQc Z 1 o h1 ι1 w1 ob) (fun _ _ _ => False) 6 74 (fun q => Z.2.1 ≤ q) := by
  refine vx_ofWH (cc := cL_mate) (maxL := 4) (ret := some .int) (hh := [(0, 9, 12, 31)]) (by decide) rfl ?_
  intro p e s m args below meth c s₁ B hml hv
  obtain ⟨rfl, hH, hK, hX⟩ := hv
  have hx := B.exec
  have hb := B.bytes
  have hr := B.returns
  have hlocks := B.notSynchronized
  have hts0 := atoms_spec (ws := Cond.codeWith yL_mate cL_mate 4 (some .int) [(0, 9, 12, 31)] :: rx_tbl) B.pre
  have hts := fun w hw => hts0 w (List.mem_cons_of_mem _ hw)
  have hown : s.vm.findClass "FarthestHeirLaw" = some m.cls := findClass_of_methodNamed B.named
  have htab := vx_table (x := yL_mate) B (hts0 _ List.mem_cons_self)
  have hl := lv_entry ([.ref cB, .int v1, .ref ob]) (n := 4) (Nat.le_of_ble_eq_true rfl)
  rw [lg_entry_eq]
  generalize (lg_sl ([.ref cB, .int v1, .ref ob]) ++ List.replicate (4 - (lg_sl ([.ref cB, .int v1, .ref ob])).length) Slot.unset).toArray = ls at hl ⊢
  have hl : lv_has ls 4 [(0, .ref cB), (1, .int v1), (2, .ref ob)] := hl
  refine lv_aload_n hx hb dl_mate_0 rfl (lv_at hl 2 rfl) ?_
  refine lv_iconst (v := 0) hx hb dl_mate_1 (by decide) ?_
  refine lv_aload_n hx hb dl_mate_2 rfl (lv_at hl 0 rfl) ?_
  refine lv_iload_n hx hb dl_mate_3 rfl (lv_at hl 1 rfl) ?_
  refine wr_main (t := 1) (n := 1) (pv := 4) (pl := 8) (pe := 15) (vs := [.int v1]) hl9 hbs ⟨hx, hb, hml, hown, hts⟩ hr hlocks hK hX (show rx_ML[138]? = some rx_m138 from rfl) ⟨rl_w1140, rl_w1141, rl_w1142⟩ rx_p138 rfl hoc rfl hf hw1 hw2 ok hout hob hH (lv_sub hl [] rfl) ⟨by decide, by decide, by decide, by decide⟩ dl_mate_4 (Or.inl ⟨by decide, dl_mate_7, rfl⟩) dl_mate_8 dl_mate_9 (by decide) ⟨dl_mate_15, dl_mate_16⟩ ?_
  intro k hk H9 locs9 q9 ce nx cl sl hnx hH9 hlo9 hce hcv hcl9 hc9 hs9
  obtain rfl := okO.e1 (show okO 1 (.inr k) by rw [← hk]; exact ok)
  exact wr_catch (pr := 13) (ei := 3) (pre := []) hx hb hr hlocks hown (lv_sub hl [] rfl) hX hk (Or.inr rfl) htab (fun z hz => nomatch hz) (by decide) (by decide) (hts _ rl_w965) hnx hH9 hlo9 hce hcv hcl9 hc9 hs9 (Or.inl ⟨dl_mate_12, rfl, rfl⟩) (by decide) dl_mate_13 (by decide) dl_mate_14
theorem wr_row {l : Launch} {Z : rx_Z} {h h1 : Nat → Option rx_E} {ι ι1 : Nat → Nat → Int32} {w w1 : Nat × Nat} {cB ob : Nat} {o : Value ⊕ Nat} {v1 : Int32} (hl9 : l.stackTraces = false) (hbs : Z.2.1 = Z.2.2.1.size) (ok : okO 0 o) (hob : Z.2.1 ≤ ob) (hoc : rz_oc h cB 11) (hf : rz_f Z 40 139 (.ref cB :: [.int v1]) (rz_mk h ι, w) = some (ouC o, (rz_mk h1 ι1, w1))) (hw1 : w1.1 ≤ w.1 + 5) (hw2 : w1.2 ≤ w.2 + 68) (hout : ∃ f, h1 ob = some (.inl (1, 1, f))) : vx_Met l yL_row (Cond.codeWith yL_row cL_row 4 (some .int) [(0, 9, 12, 13)] :: rx_tbl) wrM (rx_Pc Z (wrX Z) [.ref cB, .int v1, .ref ob] (rz_mk h ι, w)) (wQc Z 0 o h1 ι1 w1 ob) (fun _ _ _ => False) 6 74 (fun q => Z.2.1 ≤ q) := by
  refine vx_ofWH (cc := cL_row) (maxL := 4) (ret := some .int) (hh := [(0, 9, 12, 13)]) (by decide) rfl ?_
  intro p e s m args below meth c s₁ B hml hv
  obtain ⟨rfl, hH, hK, hX⟩ := hv
  have hx := B.exec
  have hb := B.bytes
  have hr := B.returns
  have hlocks := B.notSynchronized
  have hts0 := atoms_spec (ws := Cond.codeWith yL_row cL_row 4 (some .int) [(0, 9, 12, 13)] :: rx_tbl) B.pre
  have hts := fun w hw => hts0 w (List.mem_cons_of_mem _ hw)
  have hown : s.vm.findClass "FarthestHeirLaw" = some m.cls := findClass_of_methodNamed B.named
  have htab := vx_table (x := yL_row) B (hts0 _ List.mem_cons_self)
  have hl := lv_entry ([.ref cB, .int v1, .ref ob]) (n := 4) (Nat.le_of_ble_eq_true rfl)
  rw [lg_entry_eq]
  generalize (lg_sl ([.ref cB, .int v1, .ref ob]) ++ List.replicate (4 - (lg_sl ([.ref cB, .int v1, .ref ob])).length) Slot.unset).toArray = ls at hl ⊢
  have hl : lv_has ls 4 [(0, .ref cB), (1, .int v1), (2, .ref ob)] := hl
  refine lv_aload_n hx hb dl_row_0 rfl (lv_at hl 2 rfl) ?_
  refine lv_iconst (v := 0) hx hb dl_row_1 (by decide) ?_
  refine lv_aload_n hx hb dl_row_2 rfl (lv_at hl 0 rfl) ?_
  refine lv_iload_n hx hb dl_row_3 rfl (lv_at hl 1 rfl) ?_
  refine wr_main (t := 0) (n := 1) (pv := 4) (pl := 8) (pe := 15) (vs := [.int v1]) hl9 hbs ⟨hx, hb, hml, hown, hts⟩ hr hlocks hK hX (show rx_ML[139]? = some rx_m139 from rfl) ⟨rl_w1147, rl_w1148, rl_w1149⟩ rx_p139 rfl hoc rfl hf hw1 hw2 ok hout hob hH (lv_sub hl [] rfl) ⟨by decide, by decide, by decide, by decide⟩ dl_row_4 (Or.inl ⟨by decide, dl_row_7, rfl⟩) dl_row_8 dl_row_9 (by decide) ⟨dl_row_15, dl_row_16⟩ ?_
  intro k hk H9 locs9 q9 ce nx cl sl hnx hH9 hlo9 hce hcv hcl9 hc9 hs9
  obtain rfl := okO.e0 (show okO 0 (.inr k) by rw [← hk]; exact ok)
  exact wr_catch (pr := 13) (ei := 3) (pre := []) hx hb hr hlocks hown (lv_sub hl [] rfl) hX hk (Or.inl rfl) htab (fun z hz => nomatch hz) (by decide) (by decide) (hts _ rl_w493) hnx hH9 hlo9 hce hcv hcl9 hc9 hs9 (Or.inl ⟨dl_row_12, rfl, rfl⟩) (by decide) dl_row_13 (by decide) dl_row_14
theorem wr_rowed {l : Launch} {Z : rx_Z} {h h1 : Nat → Option rx_E} {ι ι1 : Nat → Nat → Int32} {w w1 : Nat × Nat} {cB ob : Nat} {o : Value ⊕ Nat} {v1 v2 : Int32} (hl9 : l.stackTraces = false) (hbs : Z.2.1 = Z.2.2.1.size) (ok : okO 0 o) (hob : Z.2.1 ≤ ob) (hoc : rz_oc h cB 11) (hf : rz_f Z 40 140 (.ref cB :: [.int v1, .int v2]) (rz_mk h ι, w) = some (ouC o, (rz_mk h1 ι1, w1))) (hw1 : w1.1 ≤ w.1 + 5) (hw2 : w1.2 ≤ w.2 + 68) (hout : ∃ f, h1 ob = some (.inl (1, 1, f))) : vx_Met l yL_rowed (Cond.codeWith yL_rowed cL_rowed 5 (some .int) [(0, 10, 13, 13)] :: rx_tbl) wrM (rx_Pc Z (wrX Z) [.ref cB, .int v1, .int v2, .ref ob] (rz_mk h ι, w)) (wQc Z 0 o h1 ι1 w1 ob) (fun _ _ _ => False) 6 74 (fun q => Z.2.1 ≤ q) := by
  refine vx_ofWH (cc := cL_rowed) (maxL := 5) (ret := some .int) (hh := [(0, 10, 13, 13)]) (by decide) rfl ?_
  intro p e s m args below meth c s₁ B hml hv
  obtain ⟨rfl, hH, hK, hX⟩ := hv
  have hx := B.exec
  have hb := B.bytes
  have hr := B.returns
  have hlocks := B.notSynchronized
  have hts0 := atoms_spec (ws := Cond.codeWith yL_rowed cL_rowed 5 (some .int) [(0, 10, 13, 13)] :: rx_tbl) B.pre
  have hts := fun w hw => hts0 w (List.mem_cons_of_mem _ hw)
  have hown : s.vm.findClass "FarthestHeirLaw" = some m.cls := findClass_of_methodNamed B.named
  have htab := vx_table (x := yL_rowed) B (hts0 _ List.mem_cons_self)
  have hl := lv_entry ([.ref cB, .int v1, .int v2, .ref ob]) (n := 5) (Nat.le_of_ble_eq_true rfl)
  rw [lg_entry_eq]
  generalize (lg_sl ([.ref cB, .int v1, .int v2, .ref ob]) ++ List.replicate (5 - (lg_sl ([.ref cB, .int v1, .int v2, .ref ob])).length) Slot.unset).toArray = ls at hl ⊢
  have hl : lv_has ls 5 [(0, .ref cB), (1, .int v1), (2, .int v2), (3, .ref ob)] := hl
  refine lv_aload_n hx hb dl_rowed_0 rfl (lv_at hl 3 rfl) ?_
  refine lv_iconst (v := 0) hx hb dl_rowed_1 (by decide) ?_
  refine lv_aload_n hx hb dl_rowed_2 rfl (lv_at hl 0 rfl) ?_
  refine lv_iload_n hx hb dl_rowed_3 rfl (lv_at hl 1 rfl) ?_
  refine lv_iload_n hx hb dl_rowed_4 rfl (lv_at hl 2 rfl) ?_
  refine wr_main (t := 0) (n := 2) (pv := 5) (pl := 9) (pe := 17) (vs := [.int v1, .int v2]) hl9 hbs ⟨hx, hb, hml, hown, hts⟩ hr hlocks hK hX (show rx_ML[140]? = some rx_m140 from rfl) ⟨rl_w1166, rl_w1167, rl_w1168⟩ rx_p140 rfl hoc rfl hf hw1 hw2 ok hout hob hH (lv_sub hl [] rfl) ⟨by decide, by decide, by decide, by decide⟩ dl_rowed_5 (Or.inl ⟨by decide, dl_rowed_8, rfl⟩) dl_rowed_9 dl_rowed_10 (by decide) ⟨dl_rowed_17, dl_rowed_18⟩ ?_
  intro k hk H9 locs9 q9 ce nx cl sl hnx hH9 hlo9 hce hcv hcl9 hc9 hs9
  obtain rfl := okO.e0 (show okO 0 (.inr k) by rw [← hk]; exact ok)
  exact wr_catch (pr := 15) (ei := 4) (pre := []) hx hb hr hlocks hown (lv_sub hl [] rfl) hX hk (Or.inl rfl) htab (fun z hz => nomatch hz) (by decide) (by decide) (hts _ rl_w493) hnx hH9 hlo9 hce hcv hcl9 hc9 hs9 (Or.inr ⟨dl_rowed_13, rfl⟩) (by decide) dl_rowed_15 (by decide) dl_rowed_16
theorem wr_child {l : Launch} {Z : rx_Z} {h h1 : Nat → Option rx_E} {ι ι1 : Nat → Nat → Int32} {w w1 : Nat × Nat} {cB ob : Nat} {o : Value ⊕ Nat} {v1 : Int32} (hl9 : l.stackTraces = false) (hbs : Z.2.1 = Z.2.2.1.size) (ok : okO 0 o) (hob : Z.2.1 ≤ ob) (hoc : rz_oc h cB 11) (hf : rz_f Z 40 141 (.ref cB :: [.int v1]) (rz_mk h ι, w) = some (ouC o, (rz_mk h1 ι1, w1))) (hw1 : w1.1 ≤ w.1 + 5) (hw2 : w1.2 ≤ w.2 + 68) (hout : ∃ f, h1 ob = some (.inl (1, 1, f))) : vx_Met l yL_child (Cond.codeWith yL_child cL_child 4 (some .int) [(0, 9, 12, 13)] :: rx_tbl) wrM (rx_Pc Z (wrX Z) [.ref cB, .int v1, .ref ob] (rz_mk h ι, w)) (wQc Z 0 o h1 ι1 w1 ob) (fun _ _ _ => False) 6 74 (fun q => Z.2.1 ≤ q) := by
  refine vx_ofWH (cc := cL_child) (maxL := 4) (ret := some .int) (hh := [(0, 9, 12, 13)]) (by decide) rfl ?_
  intro p e s m args below meth c s₁ B hml hv
  obtain ⟨rfl, hH, hK, hX⟩ := hv
  have hx := B.exec
  have hb := B.bytes
  have hr := B.returns
  have hlocks := B.notSynchronized
  have hts0 := atoms_spec (ws := Cond.codeWith yL_child cL_child 4 (some .int) [(0, 9, 12, 13)] :: rx_tbl) B.pre
  have hts := fun w hw => hts0 w (List.mem_cons_of_mem _ hw)
  have hown : s.vm.findClass "FarthestHeirLaw" = some m.cls := findClass_of_methodNamed B.named
  have htab := vx_table (x := yL_child) B (hts0 _ List.mem_cons_self)
  have hl := lv_entry ([.ref cB, .int v1, .ref ob]) (n := 4) (Nat.le_of_ble_eq_true rfl)
  rw [lg_entry_eq]
  generalize (lg_sl ([.ref cB, .int v1, .ref ob]) ++ List.replicate (4 - (lg_sl ([.ref cB, .int v1, .ref ob])).length) Slot.unset).toArray = ls at hl ⊢
  have hl : lv_has ls 4 [(0, .ref cB), (1, .int v1), (2, .ref ob)] := hl
  refine lv_aload_n hx hb dl_child_0 rfl (lv_at hl 2 rfl) ?_
  refine lv_iconst (v := 0) hx hb dl_child_1 (by decide) ?_
  refine lv_aload_n hx hb dl_child_2 rfl (lv_at hl 0 rfl) ?_
  refine lv_iload_n hx hb dl_child_3 rfl (lv_at hl 1 rfl) ?_
  refine wr_main (t := 0) (n := 1) (pv := 4) (pl := 8) (pe := 15) (vs := [.int v1]) hl9 hbs ⟨hx, hb, hml, hown, hts⟩ hr hlocks hK hX (show rx_ML[141]? = some rx_m141 from rfl) ⟨rl_w1173, rl_w1174, rl_w1175⟩ rx_p141 rfl hoc rfl hf hw1 hw2 ok hout hob hH (lv_sub hl [] rfl) ⟨by decide, by decide, by decide, by decide⟩ dl_child_4 (Or.inl ⟨by decide, dl_child_7, rfl⟩) dl_child_8 dl_child_9 (by decide) ⟨dl_child_15, dl_child_16⟩ ?_
  intro k hk H9 locs9 q9 ce nx cl sl hnx hH9 hlo9 hce hcv hcl9 hc9 hs9
  obtain rfl := okO.e0 (show okO 0 (.inr k) by rw [← hk]; exact ok)
  exact wr_catch (pr := 13) (ei := 3) (pre := []) hx hb hr hlocks hown (lv_sub hl [] rfl) hX hk (Or.inl rfl) htab (fun z hz => nomatch hz) (by decide) (by decide) (hts _ rl_w493) hnx hH9 hlo9 hce hcv hcl9 hc9 hs9 (Or.inl ⟨dl_child_12, rfl, rfl⟩) (by decide) dl_child_13 (by decide) dl_child_14
theorem wr_middling {l : Launch} {Z : rx_Z} {h h1 : Nat → Option rx_E} {ι ι1 : Nat → Nat → Int32} {w w1 : Nat × Nat} {cB ob : Nat} {o : Value ⊕ Nat} {v1 : Int32} (hl9 : l.stackTraces = false) (hbs : Z.2.1 = Z.2.2.1.size) (ok : okO 0 o) (hob : Z.2.1 ≤ ob) (hoc : rz_oc h cB 11) (hf : rz_f Z 40 142 (.ref cB :: [.int v1]) (rz_mk h ι, w) = some (ouC o, (rz_mk h1 ι1, w1))) (hw1 : w1.1 ≤ w.1 + 5) (hw2 : w1.2 ≤ w.2 + 68) (hout : ∃ f, h1 ob = some (.inl (1, 1, f))) : vx_Met l yL_middling (Cond.codeWith yL_middling cL_middling 4 (some .int) [(0, 9, 12, 13)] :: rx_tbl) wrM (rx_Pc Z (wrX Z) [.ref cB, .int v1, .ref ob] (rz_mk h ι, w)) (wQc Z 0 o h1 ι1 w1 ob) (fun _ _ _ => False) 6 74 (fun q => Z.2.1 ≤ q) := by
  refine vx_ofWH (cc := cL_middling) (maxL := 4) (ret := some .int) (hh := [(0, 9, 12, 13)]) (by decide) rfl ?_
  intro p e s m args below meth c s₁ B hml hv
  obtain ⟨rfl, hH, hK, hX⟩ := hv
  have hx := B.exec
  have hb := B.bytes
  have hr := B.returns
  have hlocks := B.notSynchronized
  have hts0 := atoms_spec (ws := Cond.codeWith yL_middling cL_middling 4 (some .int) [(0, 9, 12, 13)] :: rx_tbl) B.pre
  have hts := fun w hw => hts0 w (List.mem_cons_of_mem _ hw)
  have hown : s.vm.findClass "FarthestHeirLaw" = some m.cls := findClass_of_methodNamed B.named
  have htab := vx_table (x := yL_middling) B (hts0 _ List.mem_cons_self)
  have hl := lv_entry ([.ref cB, .int v1, .ref ob]) (n := 4) (Nat.le_of_ble_eq_true rfl)
  rw [lg_entry_eq]
  generalize (lg_sl ([.ref cB, .int v1, .ref ob]) ++ List.replicate (4 - (lg_sl ([.ref cB, .int v1, .ref ob])).length) Slot.unset).toArray = ls at hl ⊢
  have hl : lv_has ls 4 [(0, .ref cB), (1, .int v1), (2, .ref ob)] := hl
  refine lv_aload_n hx hb dl_middling_0 rfl (lv_at hl 2 rfl) ?_
  refine lv_iconst (v := 0) hx hb dl_middling_1 (by decide) ?_
  refine lv_aload_n hx hb dl_middling_2 rfl (lv_at hl 0 rfl) ?_
  refine lv_iload_n hx hb dl_middling_3 rfl (lv_at hl 1 rfl) ?_
  refine wr_main (t := 0) (n := 1) (pv := 4) (pl := 8) (pe := 15) (vs := [.int v1]) hl9 hbs ⟨hx, hb, hml, hown, hts⟩ hr hlocks hK hX (show rx_ML[142]? = some rx_m142 from rfl) ⟨rl_w1187, rl_w1188, rl_w1189⟩ rx_p142 rfl hoc rfl hf hw1 hw2 ok hout hob hH (lv_sub hl [] rfl) ⟨by decide, by decide, by decide, by decide⟩ dl_middling_4 (Or.inl ⟨by decide, dl_middling_7, rfl⟩) dl_middling_8 dl_middling_9 (by decide) ⟨dl_middling_15, dl_middling_16⟩ ?_
  intro k hk H9 locs9 q9 ce nx cl sl hnx hH9 hlo9 hce hcv hcl9 hc9 hs9
  obtain rfl := okO.e0 (show okO 0 (.inr k) by rw [← hk]; exact ok)
  exact wr_catch (pr := 13) (ei := 3) (pre := []) hx hb hr hlocks hown (lv_sub hl [] rfl) hX hk (Or.inl rfl) htab (fun z hz => nomatch hz) (by decide) (by decide) (hts _ rl_w493) hnx hH9 hlo9 hce hcv hcl9 hc9 hs9 (Or.inl ⟨dl_middling_12, rfl, rfl⟩) (by decide) dl_middling_13 (by decide) dl_middling_14
theorem wr_chance {l : Launch} {Z : rx_Z} {h h1 : Nat → Option rx_E} {ι ι1 : Nat → Nat → Int32} {w w1 : Nat × Nat} {cB ob : Nat} {o : Value ⊕ Nat} {v1 v2 v3 v4 : Int32} (hl9 : l.stackTraces = false) (hbs : Z.2.1 = Z.2.2.1.size) (ok : okO 4 o) (hob : Z.2.1 ≤ ob) (hoc : rz_oc h cB 11) (hf : rz_f Z 40 143 (.ref cB :: [.int v1, .int v2, .int v3, .int v4]) (rz_mk h ι, w) = some (ouC o, (rz_mk h1 ι1, w1))) (hw1 : w1.1 ≤ w.1 + 5) (hw2 : w1.2 ≤ w.2 + 68) (hout : ∃ f, h1 ob = some (.inl (1, 1, f))) : vx_Met l yL_chance (Cond.codeWith yL_chance cL_chance 7 (some .int) [(0, 13, 16, 13)] :: rx_tbl) wrM (rx_Pc Z (wrX Z) [.ref cB, .int v1, .int v2, .int v3, .int v4, .ref ob] (rz_mk h ι, w)) (wQc Z 4 o h1 ι1 w1 ob) (fun _ _ _ => False) 6 74 (fun q => Z.2.1 ≤ q) := by
  refine vx_ofWH (cc := cL_chance) (maxL := 7) (ret := some .int) (hh := [(0, 13, 16, 13)]) (by decide) rfl ?_
  intro p e s m args below meth c s₁ B hml hv
  obtain ⟨rfl, hH, hK, hX⟩ := hv
  have hx := B.exec
  have hb := B.bytes
  have hr := B.returns
  have hlocks := B.notSynchronized
  have hts0 := atoms_spec (ws := Cond.codeWith yL_chance cL_chance 7 (some .int) [(0, 13, 16, 13)] :: rx_tbl) B.pre
  have hts := fun w hw => hts0 w (List.mem_cons_of_mem _ hw)
  have hown : s.vm.findClass "FarthestHeirLaw" = some m.cls := findClass_of_methodNamed B.named
  have htab := vx_table (x := yL_chance) B (hts0 _ List.mem_cons_self)
  have hl := lv_entry ([.ref cB, .int v1, .int v2, .int v3, .int v4, .ref ob]) (n := 7) (Nat.le_of_ble_eq_true rfl)
  rw [lg_entry_eq]
  generalize (lg_sl ([.ref cB, .int v1, .int v2, .int v3, .int v4, .ref ob]) ++ List.replicate (7 - (lg_sl ([.ref cB, .int v1, .int v2, .int v3, .int v4, .ref ob])).length) Slot.unset).toArray = ls at hl ⊢
  have hl : lv_has ls 7 [(0, .ref cB), (1, .int v1), (2, .int v2), (3, .int v3), (4, .int v4), (5, .ref ob)] := hl
  refine lv_aload hx hb dl_chance_0 (lv_at hl 5 rfl) ?_
  refine lv_iconst (v := 0) hx hb dl_chance_2 (by decide) ?_
  refine lv_aload_n hx hb dl_chance_3 rfl (lv_at hl 0 rfl) ?_
  refine lv_iload_n hx hb dl_chance_4 rfl (lv_at hl 1 rfl) ?_
  refine lv_iload_n hx hb dl_chance_5 rfl (lv_at hl 2 rfl) ?_
  refine lv_iload_n hx hb dl_chance_6 rfl (lv_at hl 3 rfl) ?_
  refine lv_iload hx hb dl_chance_7 (lv_at hl 4 rfl) ?_
  refine wr_main (t := 4) (n := 4) (pv := 9) (pl := 12) (pe := 20) (vs := [.int v1, .int v2, .int v3, .int v4]) hl9 hbs ⟨hx, hb, hml, hown, hts⟩ hr hlocks hK hX (show rx_ML[143]? = some rx_m143 from rfl) ⟨rl_w1195, rl_w1196, rl_w1197⟩ rx_p143 rfl hoc rfl hf hw1 hw2 ok hout hob hH (lv_sub hl [] rfl) ⟨by decide, by decide, by decide, by decide⟩ dl_chance_9 (Or.inr ⟨rfl, rfl⟩) dl_chance_12 dl_chance_13 (by decide) ⟨dl_chance_20, dl_chance_21⟩ ?_
  intro k hk H9 locs9 q9 ce nx cl sl hnx hH9 hlo9 hce hcv hcl9 hc9 hs9
  obtain rfl := okO.e4 (show okO 4 (.inr k) by rw [← hk]; exact ok)
  exact wr_catch (pr := 18) (ei := 6) (pre := []) hx hb hr hlocks hown (lv_sub hl [] rfl) hX hk (Or.inl rfl) htab (fun z hz => nomatch hz) (by decide) (by decide) (hts _ rl_w493) hnx hH9 hlo9 hce hcv hcl9 hc9 hs9 (Or.inr ⟨dl_chance_16, rfl⟩) (by decide) dl_chance_18 (by decide) dl_chance_19
theorem wr_feigning {l : Launch} {Z : rx_Z} {h h1 : Nat → Option rx_E} {ι ι1 : Nat → Nat → Int32} {w w1 : Nat × Nat} {cB ob : Nat} {o : Value ⊕ Nat} {v1 v2 v3 : Int32} (hl9 : l.stackTraces = false) (hbs : Z.2.1 = Z.2.2.1.size) (ok : okO 0 o) (hob : Z.2.1 ≤ ob) (hoc : rz_oc h cB 11) (hf : rz_f Z 40 144 (.ref cB :: [.int v1, .int v2, .int v3]) (rz_mk h ι, w) = some (ouC o, (rz_mk h1 ι1, w1))) (hw1 : w1.1 ≤ w.1 + 5) (hw2 : w1.2 ≤ w.2 + 68) (hout : ∃ f, h1 ob = some (.inl (1, 1, f))) : vx_Met l yL_feigning (Cond.codeWith yL_feigning cL_feigning 6 (some .int) [(0, 12, 15, 13)] :: rx_tbl) wrM (rx_Pc Z (wrX Z) [.ref cB, .int v1, .int v2, .int v3, .ref ob] (rz_mk h ι, w)) (wQc Z 0 o h1 ι1 w1 ob) (fun _ _ _ => False) 6 74 (fun q => Z.2.1 ≤ q) := by
  refine vx_ofWH (cc := cL_feigning) (maxL := 6) (ret := some .int) (hh := [(0, 12, 15, 13)]) (by decide) rfl ?_
  intro p e s m args below meth c s₁ B hml hv
  obtain ⟨rfl, hH, hK, hX⟩ := hv
  have hx := B.exec
  have hb := B.bytes
  have hr := B.returns
  have hlocks := B.notSynchronized
  have hts0 := atoms_spec (ws := Cond.codeWith yL_feigning cL_feigning 6 (some .int) [(0, 12, 15, 13)] :: rx_tbl) B.pre
  have hts := fun w hw => hts0 w (List.mem_cons_of_mem _ hw)
  have hown : s.vm.findClass "FarthestHeirLaw" = some m.cls := findClass_of_methodNamed B.named
  have htab := vx_table (x := yL_feigning) B (hts0 _ List.mem_cons_self)
  have hl := lv_entry ([.ref cB, .int v1, .int v2, .int v3, .ref ob]) (n := 6) (Nat.le_of_ble_eq_true rfl)
  rw [lg_entry_eq]
  generalize (lg_sl ([.ref cB, .int v1, .int v2, .int v3, .ref ob]) ++ List.replicate (6 - (lg_sl ([.ref cB, .int v1, .int v2, .int v3, .ref ob])).length) Slot.unset).toArray = ls at hl ⊢
  have hl : lv_has ls 6 [(0, .ref cB), (1, .int v1), (2, .int v2), (3, .int v3), (4, .ref ob)] := hl
  refine lv_aload hx hb dl_feigning_0 (lv_at hl 4 rfl) ?_
  refine lv_iconst (v := 0) hx hb dl_feigning_2 (by decide) ?_
  refine lv_aload_n hx hb dl_feigning_3 rfl (lv_at hl 0 rfl) ?_
  refine lv_iload_n hx hb dl_feigning_4 rfl (lv_at hl 1 rfl) ?_
  refine lv_iload_n hx hb dl_feigning_5 rfl (lv_at hl 2 rfl) ?_
  refine lv_iload_n hx hb dl_feigning_6 rfl (lv_at hl 3 rfl) ?_
  refine wr_main (t := 0) (n := 3) (pv := 7) (pl := 11) (pe := 19) (vs := [.int v1, .int v2, .int v3]) hl9 hbs ⟨hx, hb, hml, hown, hts⟩ hr hlocks hK hX (show rx_ML[144]? = some rx_m144 from rfl) ⟨rl_w1212, rl_w1213, rl_w1214⟩ rx_p144 rfl hoc rfl hf hw1 hw2 ok hout hob hH (lv_sub hl [] rfl) ⟨by decide, by decide, by decide, by decide⟩ dl_feigning_7 (Or.inl ⟨by decide, dl_feigning_10, rfl⟩) dl_feigning_11 dl_feigning_12 (by decide) ⟨dl_feigning_19, dl_feigning_20⟩ ?_
  intro k hk H9 locs9 q9 ce nx cl sl hnx hH9 hlo9 hce hcv hcl9 hc9 hs9
  obtain rfl := okO.e0 (show okO 0 (.inr k) by rw [← hk]; exact ok)
  exact wr_catch (pr := 17) (ei := 5) (pre := []) hx hb hr hlocks hown (lv_sub hl [] rfl) hX hk (Or.inl rfl) htab (fun z hz => nomatch hz) (by decide) (by decide) (hts _ rl_w493) hnx hH9 hlo9 hce hcv hcl9 hc9 hs9 (Or.inr ⟨dl_feigning_15, rfl⟩) (by decide) dl_feigning_17 (by decide) dl_feigning_18
theorem wr_land {l : Launch} {Z : rx_Z} {h h1 : Nat → Option rx_E} {ι ι1 : Nat → Nat → Int32} {w w1 : Nat × Nat} {cB ob : Nat} {o : Value ⊕ Nat} {v1 v2 v3 : Int32} (hl9 : l.stackTraces = false) (hbs : Z.2.1 = Z.2.2.1.size) (ok : okO 2 o) (hob : Z.2.1 ≤ ob) (hoc : rz_oc h cB 11) (hf : rz_f Z 40 145 (.ref cB :: [.int v1, .int v2, .int v3]) (rz_mk h ι, w) = some (ouC o, (rz_mk h1 ι1, w1))) (hw1 : w1.1 ≤ w.1 + 5) (hw2 : w1.2 ≤ w.2 + 68) (hout : ∃ f, h1 ob = some (.inl (1, 1, f))) : vx_Met l yL_land (Cond.codeWith yL_land cL_land 6 (some .int) [(0, 12, 15, 31), (0, 12, 19, 13)] :: rx_tbl) wrM (rx_Pc Z (wrX Z) [.ref cB, .int v1, .int v2, .int v3, .ref ob] (rz_mk h ι, w)) (wQc Z 2 o h1 ι1 w1 ob) (fun _ _ _ => False) 6 74 (fun q => Z.2.1 ≤ q) := by
  refine vx_ofWH (cc := cL_land) (maxL := 6) (ret := some .int) (hh := [(0, 12, 15, 31), (0, 12, 19, 13)]) (by decide) rfl ?_
  intro p e s m args below meth c s₁ B hml hv
  obtain ⟨rfl, hH, hK, hX⟩ := hv
  have hx := B.exec
  have hb := B.bytes
  have hr := B.returns
  have hlocks := B.notSynchronized
  have hts0 := atoms_spec (ws := Cond.codeWith yL_land cL_land 6 (some .int) [(0, 12, 15, 31), (0, 12, 19, 13)] :: rx_tbl) B.pre
  have hts := fun w hw => hts0 w (List.mem_cons_of_mem _ hw)
  have hown : s.vm.findClass "FarthestHeirLaw" = some m.cls := findClass_of_methodNamed B.named
  have htab := vx_table (x := yL_land) B (hts0 _ List.mem_cons_self)
  have hl := lv_entry ([.ref cB, .int v1, .int v2, .int v3, .ref ob]) (n := 6) (Nat.le_of_ble_eq_true rfl)
  rw [lg_entry_eq]
  generalize (lg_sl ([.ref cB, .int v1, .int v2, .int v3, .ref ob]) ++ List.replicate (6 - (lg_sl ([.ref cB, .int v1, .int v2, .int v3, .ref ob])).length) Slot.unset).toArray = ls at hl ⊢
  have hl : lv_has ls 6 [(0, .ref cB), (1, .int v1), (2, .int v2), (3, .int v3), (4, .ref ob)] := hl
  refine lv_aload hx hb dl_land_0 (lv_at hl 4 rfl) ?_
  refine lv_iconst (v := 0) hx hb dl_land_2 (by decide) ?_
  refine lv_aload_n hx hb dl_land_3 rfl (lv_at hl 0 rfl) ?_
  refine lv_iload_n hx hb dl_land_4 rfl (lv_at hl 1 rfl) ?_
  refine lv_iload_n hx hb dl_land_5 rfl (lv_at hl 2 rfl) ?_
  refine lv_iload_n hx hb dl_land_6 rfl (lv_at hl 3 rfl) ?_
  refine wr_main (t := 2) (n := 3) (pv := 7) (pl := 11) (pe := 23) (vs := [.int v1, .int v2, .int v3]) hl9 hbs ⟨hx, hb, hml, hown, hts⟩ hr hlocks hK hX (show rx_ML[145]? = some rx_m145 from rfl) ⟨rl_w1222, rl_w1223, rl_w1224⟩ rx_p145 rfl hoc rfl hf hw1 hw2 ok hout hob hH (lv_sub hl [] rfl) ⟨by decide, by decide, by decide, by decide⟩ dl_land_7 (Or.inl ⟨by decide, dl_land_10, rfl⟩) dl_land_11 dl_land_12 (by decide) ⟨dl_land_23, dl_land_24⟩ ?_
  intro k hk H9 locs9 q9 ce nx cl sl hnx hH9 hlo9 hce hcv hcl9 hc9 hs9
  rcases okO.e2 (show okO 2 (.inr k) by rw [← hk]; exact ok) with rfl | rfl
  · exact wr_catch (pr := 21) (ei := 5) (pre := [_]) hx hb hr hlocks hown (lv_sub hl [] rfl) hX hk (Or.inl rfl) htab (fun z hz => by rw [List.mem_singleton.mp hz]; exact Or.inr ⟨by decide, "java/util/NoSuchElementException", hts _ rl_w965, hX.2⟩) (by decide) (by decide) (hts _ rl_w493) hnx hH9 hlo9 hce hcv hcl9 hc9 hs9 (Or.inr ⟨dl_land_19, rfl⟩) (by decide) dl_land_21 (by decide) dl_land_22
  · exact wr_catch (pr := 17) (ei := 5) (pre := []) hx hb hr hlocks hown (lv_sub hl [] rfl) hX hk (Or.inr rfl) htab (fun z hz => nomatch hz) (by decide) (by decide) (hts _ rl_w965) hnx hH9 hlo9 hce hcv hcl9 hc9 hs9 (Or.inr ⟨dl_land_15, rfl⟩) (by decide) dl_land_17 (by decide) dl_land_18
theorem wr_oldest {l : Launch} {Z : rx_Z} {h h1 : Nat → Option rx_E} {ι ι1 : Nat → Nat → Int32} {w w1 : Nat × Nat} {cB ob : Nat} {o : Value ⊕ Nat} {v1 : Int32} (hl9 : l.stackTraces = false) (hbs : Z.2.1 = Z.2.2.1.size) (ok : okO 0 o) (hob : Z.2.1 ≤ ob) (hoc : rz_oc h cB 11) (hf : rz_f Z 40 146 (.ref cB :: [.int v1]) (rz_mk h ι, w) = some (ouC o, (rz_mk h1 ι1, w1))) (hw1 : w1.1 ≤ w.1 + 5) (hw2 : w1.2 ≤ w.2 + 68) (hout : ∃ f, h1 ob = some (.inl (1, 1, f))) : vx_Met l yL_oldest (Cond.codeWith yL_oldest cL_oldest 4 (some .int) [(0, 9, 12, 13)] :: rx_tbl) wrM (rx_Pc Z (wrX Z) [.ref cB, .int v1, .ref ob] (rz_mk h ι, w)) (wQc Z 0 o h1 ι1 w1 ob) (fun _ _ _ => False) 6 74 (fun q => Z.2.1 ≤ q) := by
  refine vx_ofWH (cc := cL_oldest) (maxL := 4) (ret := some .int) (hh := [(0, 9, 12, 13)]) (by decide) rfl ?_
  intro p e s m args below meth c s₁ B hml hv
  obtain ⟨rfl, hH, hK, hX⟩ := hv
  have hx := B.exec
  have hb := B.bytes
  have hr := B.returns
  have hlocks := B.notSynchronized
  have hts0 := atoms_spec (ws := Cond.codeWith yL_oldest cL_oldest 4 (some .int) [(0, 9, 12, 13)] :: rx_tbl) B.pre
  have hts := fun w hw => hts0 w (List.mem_cons_of_mem _ hw)
  have hown : s.vm.findClass "FarthestHeirLaw" = some m.cls := findClass_of_methodNamed B.named
  have htab := vx_table (x := yL_oldest) B (hts0 _ List.mem_cons_self)
  have hl := lv_entry ([.ref cB, .int v1, .ref ob]) (n := 4) (Nat.le_of_ble_eq_true rfl)
  rw [lg_entry_eq]
  generalize (lg_sl ([.ref cB, .int v1, .ref ob]) ++ List.replicate (4 - (lg_sl ([.ref cB, .int v1, .ref ob])).length) Slot.unset).toArray = ls at hl ⊢
  have hl : lv_has ls 4 [(0, .ref cB), (1, .int v1), (2, .ref ob)] := hl
  refine lv_aload_n hx hb dl_oldest_0 rfl (lv_at hl 2 rfl) ?_
  refine lv_iconst (v := 0) hx hb dl_oldest_1 (by decide) ?_
  refine lv_aload_n hx hb dl_oldest_2 rfl (lv_at hl 0 rfl) ?_
  refine lv_iload_n hx hb dl_oldest_3 rfl (lv_at hl 1 rfl) ?_
  refine wr_main (t := 0) (n := 1) (pv := 4) (pl := 8) (pe := 15) (vs := [.int v1]) hl9 hbs ⟨hx, hb, hml, hown, hts⟩ hr hlocks hK hX (show rx_ML[146]? = some rx_m146 from rfl) ⟨rl_w1239, rl_w1240, rl_w1241⟩ rx_p146 rfl hoc rfl hf hw1 hw2 ok hout hob hH (lv_sub hl [] rfl) ⟨by decide, by decide, by decide, by decide⟩ dl_oldest_4 (Or.inl ⟨by decide, dl_oldest_7, rfl⟩) dl_oldest_8 dl_oldest_9 (by decide) ⟨dl_oldest_15, dl_oldest_16⟩ ?_
  intro k hk H9 locs9 q9 ce nx cl sl hnx hH9 hlo9 hce hcv hcl9 hc9 hs9
  obtain rfl := okO.e0 (show okO 0 (.inr k) by rw [← hk]; exact ok)
  exact wr_catch (pr := 13) (ei := 3) (pre := []) hx hb hr hlocks hown (lv_sub hl [] rfl) hX hk (Or.inl rfl) htab (fun z hz => nomatch hz) (by decide) (by decide) (hts _ rl_w493) hnx hH9 hlo9 hce hcv hcl9 hc9 hs9 (Or.inl ⟨dl_oldest_12, rfl, rfl⟩) (by decide) dl_oldest_13 (by decide) dl_oldest_14
theorem wr_alike {l : Launch} {Z : rx_Z} {h h1 : Nat → Option rx_E} {ι ι1 : Nat → Nat → Int32} {w w1 : Nat × Nat} {cB ob : Nat} {o : Value ⊕ Nat} {v1 : Int32} (hl9 : l.stackTraces = false) (hbs : Z.2.1 = Z.2.2.1.size) (ok : okO 0 o) (hob : Z.2.1 ≤ ob) (hoc : rz_oc h cB 11) (hf : rz_f Z 40 147 (.ref cB :: [.int v1]) (rz_mk h ι, w) = some (ouC o, (rz_mk h1 ι1, w1))) (hw1 : w1.1 ≤ w.1 + 5) (hw2 : w1.2 ≤ w.2 + 68) (hout : ∃ f, h1 ob = some (.inl (1, 1, f))) : vx_Met l yL_alike (Cond.codeWith yL_alike cL_alike 4 (some .int) [(0, 9, 12, 13)] :: rx_tbl) wrM (rx_Pc Z (wrX Z) [.ref cB, .int v1, .ref ob] (rz_mk h ι, w)) (wQc Z 0 o h1 ι1 w1 ob) (fun _ _ _ => False) 6 74 (fun q => Z.2.1 ≤ q) := by
  refine vx_ofWH (cc := cL_alike) (maxL := 4) (ret := some .int) (hh := [(0, 9, 12, 13)]) (by decide) rfl ?_
  intro p e s m args below meth c s₁ B hml hv
  obtain ⟨rfl, hH, hK, hX⟩ := hv
  have hx := B.exec
  have hb := B.bytes
  have hr := B.returns
  have hlocks := B.notSynchronized
  have hts0 := atoms_spec (ws := Cond.codeWith yL_alike cL_alike 4 (some .int) [(0, 9, 12, 13)] :: rx_tbl) B.pre
  have hts := fun w hw => hts0 w (List.mem_cons_of_mem _ hw)
  have hown : s.vm.findClass "FarthestHeirLaw" = some m.cls := findClass_of_methodNamed B.named
  have htab := vx_table (x := yL_alike) B (hts0 _ List.mem_cons_self)
  have hl := lv_entry ([.ref cB, .int v1, .ref ob]) (n := 4) (Nat.le_of_ble_eq_true rfl)
  rw [lg_entry_eq]
  generalize (lg_sl ([.ref cB, .int v1, .ref ob]) ++ List.replicate (4 - (lg_sl ([.ref cB, .int v1, .ref ob])).length) Slot.unset).toArray = ls at hl ⊢
  have hl : lv_has ls 4 [(0, .ref cB), (1, .int v1), (2, .ref ob)] := hl
  refine lv_aload_n hx hb dl_alike_0 rfl (lv_at hl 2 rfl) ?_
  refine lv_iconst (v := 0) hx hb dl_alike_1 (by decide) ?_
  refine lv_aload_n hx hb dl_alike_2 rfl (lv_at hl 0 rfl) ?_
  refine lv_iload_n hx hb dl_alike_3 rfl (lv_at hl 1 rfl) ?_
  refine wr_main (t := 0) (n := 1) (pv := 4) (pl := 8) (pe := 15) (vs := [.int v1]) hl9 hbs ⟨hx, hb, hml, hown, hts⟩ hr hlocks hK hX (show rx_ML[147]? = some rx_m147 from rfl) ⟨rl_w1246, rl_w1247, rl_w1248⟩ rx_p147 rfl hoc rfl hf hw1 hw2 ok hout hob hH (lv_sub hl [] rfl) ⟨by decide, by decide, by decide, by decide⟩ dl_alike_4 (Or.inl ⟨by decide, dl_alike_7, rfl⟩) dl_alike_8 dl_alike_9 (by decide) ⟨dl_alike_15, dl_alike_16⟩ ?_
  intro k hk H9 locs9 q9 ce nx cl sl hnx hH9 hlo9 hce hcv hcl9 hc9 hs9
  obtain rfl := okO.e0 (show okO 0 (.inr k) by rw [← hk]; exact ok)
  exact wr_catch (pr := 13) (ei := 3) (pre := []) hx hb hr hlocks hown (lv_sub hl [] rfl) hX hk (Or.inl rfl) htab (fun z hz => nomatch hz) (by decide) (by decide) (hts _ rl_w493) hnx hH9 hlo9 hce hcv hcl9 hc9 hs9 (Or.inl ⟨dl_alike_12, rfl, rfl⟩) (by decide) dl_alike_13 (by decide) dl_alike_14
theorem wr_beyond {l : Launch} {Z : rx_Z} {h h1 : Nat → Option rx_E} {ι ι1 : Nat → Nat → Int32} {w w1 : Nat × Nat} {cB ob : Nat} {o : Value ⊕ Nat} {v1 v2 : Int32} (hl9 : l.stackTraces = false) (hbs : Z.2.1 = Z.2.2.1.size) (ok : okO 2 o) (hob : Z.2.1 ≤ ob) (hoc : rz_oc h cB 11) (hf : rz_f Z 40 148 (.ref cB :: [.int v1, .int v2]) (rz_mk h ι, w) = some (ouC o, (rz_mk h1 ι1, w1))) (hw1 : w1.1 ≤ w.1 + 5) (hw2 : w1.2 ≤ w.2 + 68) (hout : ∃ f, h1 ob = some (.inl (1, 1, f))) : vx_Met l yL_beyond (Cond.codeWith yL_beyond cL_beyond 5 (some .int) [(0, 10, 13, 31), (0, 10, 17, 13)] :: rx_tbl) wrM (rx_Pc Z (wrX Z) [.ref cB, .int v1, .int v2, .ref ob] (rz_mk h ι, w)) (wQc Z 2 o h1 ι1 w1 ob) (fun _ _ _ => False) 6 74 (fun q => Z.2.1 ≤ q) := by
  refine vx_ofWH (cc := cL_beyond) (maxL := 5) (ret := some .int) (hh := [(0, 10, 13, 31), (0, 10, 17, 13)]) (by decide) rfl ?_
  intro p e s m args below meth c s₁ B hml hv
  obtain ⟨rfl, hH, hK, hX⟩ := hv
  have hx := B.exec
  have hb := B.bytes
  have hr := B.returns
  have hlocks := B.notSynchronized
  have hts0 := atoms_spec (ws := Cond.codeWith yL_beyond cL_beyond 5 (some .int) [(0, 10, 13, 31), (0, 10, 17, 13)] :: rx_tbl) B.pre
  have hts := fun w hw => hts0 w (List.mem_cons_of_mem _ hw)
  have hown : s.vm.findClass "FarthestHeirLaw" = some m.cls := findClass_of_methodNamed B.named
  have htab := vx_table (x := yL_beyond) B (hts0 _ List.mem_cons_self)
  have hl := lv_entry ([.ref cB, .int v1, .int v2, .ref ob]) (n := 5) (Nat.le_of_ble_eq_true rfl)
  rw [lg_entry_eq]
  generalize (lg_sl ([.ref cB, .int v1, .int v2, .ref ob]) ++ List.replicate (5 - (lg_sl ([.ref cB, .int v1, .int v2, .ref ob])).length) Slot.unset).toArray = ls at hl ⊢
  have hl : lv_has ls 5 [(0, .ref cB), (1, .int v1), (2, .int v2), (3, .ref ob)] := hl
  refine lv_aload_n hx hb dl_beyond_0 rfl (lv_at hl 3 rfl) ?_
  refine lv_iconst (v := 0) hx hb dl_beyond_1 (by decide) ?_
  refine lv_aload_n hx hb dl_beyond_2 rfl (lv_at hl 0 rfl) ?_
  refine lv_iload_n hx hb dl_beyond_3 rfl (lv_at hl 1 rfl) ?_
  refine lv_iload_n hx hb dl_beyond_4 rfl (lv_at hl 2 rfl) ?_
  refine wr_main (t := 2) (n := 2) (pv := 5) (pl := 9) (pe := 21) (vs := [.int v1, .int v2]) hl9 hbs ⟨hx, hb, hml, hown, hts⟩ hr hlocks hK hX (show rx_ML[148]? = some rx_m148 from rfl) ⟨rl_w1258, rl_w1259, rl_w1260⟩ rx_p148 rfl hoc rfl hf hw1 hw2 ok hout hob hH (lv_sub hl [] rfl) ⟨by decide, by decide, by decide, by decide⟩ dl_beyond_5 (Or.inl ⟨by decide, dl_beyond_8, rfl⟩) dl_beyond_9 dl_beyond_10 (by decide) ⟨dl_beyond_21, dl_beyond_22⟩ ?_
  intro k hk H9 locs9 q9 ce nx cl sl hnx hH9 hlo9 hce hcv hcl9 hc9 hs9
  rcases okO.e2 (show okO 2 (.inr k) by rw [← hk]; exact ok) with rfl | rfl
  · exact wr_catch (pr := 19) (ei := 4) (pre := [_]) hx hb hr hlocks hown (lv_sub hl [] rfl) hX hk (Or.inl rfl) htab (fun z hz => by rw [List.mem_singleton.mp hz]; exact Or.inr ⟨by decide, "java/util/NoSuchElementException", hts _ rl_w965, hX.2⟩) (by decide) (by decide) (hts _ rl_w493) hnx hH9 hlo9 hce hcv hcl9 hc9 hs9 (Or.inr ⟨dl_beyond_17, rfl⟩) (by decide) dl_beyond_19 (by decide) dl_beyond_20
  · exact wr_catch (pr := 15) (ei := 4) (pre := []) hx hb hr hlocks hown (lv_sub hl [] rfl) hX hk (Or.inr rfl) htab (fun z hz => nomatch hz) (by decide) (by decide) (hts _ rl_w965) hnx hH9 hlo9 hce hcv hcl9 hc9 hs9 (Or.inr ⟨dl_beyond_13, rfl⟩) (by decide) dl_beyond_15 (by decide) dl_beyond_16
theorem wr_nearest {l : Launch} {Z : rx_Z} {h h1 : Nat → Option rx_E} {ι ι1 : Nat → Nat → Int32} {w w1 : Nat × Nat} {cB ob : Nat} {o : Value ⊕ Nat} {v1 : Int32} (hl9 : l.stackTraces = false) (hbs : Z.2.1 = Z.2.2.1.size) (ok : okO 0 o) (hob : Z.2.1 ≤ ob) (hoc : rz_oc h cB 11) (hf : rz_f Z 40 149 (.ref cB :: [.int v1]) (rz_mk h ι, w) = some (ouC o, (rz_mk h1 ι1, w1))) (hw1 : w1.1 ≤ w.1 + 5) (hw2 : w1.2 ≤ w.2 + 68) (hout : ∃ f, h1 ob = some (.inl (1, 1, f))) : vx_Met l yL_nearest (Cond.codeWith yL_nearest cL_nearest 4 (some .int) [(0, 9, 12, 13)] :: rx_tbl) wrM (rx_Pc Z (wrX Z) [.ref cB, .int v1, .ref ob] (rz_mk h ι, w)) (wQc Z 0 o h1 ι1 w1 ob) (fun _ _ _ => False) 6 74 (fun q => Z.2.1 ≤ q) := by
  refine vx_ofWH (cc := cL_nearest) (maxL := 4) (ret := some .int) (hh := [(0, 9, 12, 13)]) (by decide) rfl ?_
  intro p e s m args below meth c s₁ B hml hv
  obtain ⟨rfl, hH, hK, hX⟩ := hv
  have hx := B.exec
  have hb := B.bytes
  have hr := B.returns
  have hlocks := B.notSynchronized
  have hts0 := atoms_spec (ws := Cond.codeWith yL_nearest cL_nearest 4 (some .int) [(0, 9, 12, 13)] :: rx_tbl) B.pre
  have hts := fun w hw => hts0 w (List.mem_cons_of_mem _ hw)
  have hown : s.vm.findClass "FarthestHeirLaw" = some m.cls := findClass_of_methodNamed B.named
  have htab := vx_table (x := yL_nearest) B (hts0 _ List.mem_cons_self)
  have hl := lv_entry ([.ref cB, .int v1, .ref ob]) (n := 4) (Nat.le_of_ble_eq_true rfl)
  rw [lg_entry_eq]
  generalize (lg_sl ([.ref cB, .int v1, .ref ob]) ++ List.replicate (4 - (lg_sl ([.ref cB, .int v1, .ref ob])).length) Slot.unset).toArray = ls at hl ⊢
  have hl : lv_has ls 4 [(0, .ref cB), (1, .int v1), (2, .ref ob)] := hl
  refine lv_aload_n hx hb dl_nearest_0 rfl (lv_at hl 2 rfl) ?_
  refine lv_iconst (v := 0) hx hb dl_nearest_1 (by decide) ?_
  refine lv_aload_n hx hb dl_nearest_2 rfl (lv_at hl 0 rfl) ?_
  refine lv_iload_n hx hb dl_nearest_3 rfl (lv_at hl 1 rfl) ?_
  refine wr_main (t := 0) (n := 1) (pv := 4) (pl := 8) (pe := 15) (vs := [.int v1]) hl9 hbs ⟨hx, hb, hml, hown, hts⟩ hr hlocks hK hX (show rx_ML[149]? = some rx_m149 from rfl) ⟨rl_w1265, rl_w1266, rl_w1267⟩ rx_p149 rfl hoc rfl hf hw1 hw2 ok hout hob hH (lv_sub hl [] rfl) ⟨by decide, by decide, by decide, by decide⟩ dl_nearest_4 (Or.inl ⟨by decide, dl_nearest_7, rfl⟩) dl_nearest_8 dl_nearest_9 (by decide) ⟨dl_nearest_15, dl_nearest_16⟩ ?_
  intro k hk H9 locs9 q9 ce nx cl sl hnx hH9 hlo9 hce hcv hcl9 hc9 hs9
  obtain rfl := okO.e0 (show okO 0 (.inr k) by rw [← hk]; exact ok)
  exact wr_catch (pr := 13) (ei := 3) (pre := []) hx hb hr hlocks hown (lv_sub hl [] rfl) hX hk (Or.inl rfl) htab (fun z hz => nomatch hz) (by decide) (by decide) (hts _ rl_w493) hnx hH9 hlo9 hce hcv hcl9 hc9 hs9 (Or.inl ⟨dl_nearest_12, rfl, rfl⟩) (by decide) dl_nearest_13 (by decide) dl_nearest_14
theorem wr_spread {l : Launch} {Z : rx_Z} {h h1 : Nat → Option rx_E} {ι ι1 : Nat → Nat → Int32} {w w1 : Nat × Nat} {cB ob : Nat} {o : Value ⊕ Nat} {v1 v2 : Int32} (hl9 : l.stackTraces = false) (hbs : Z.2.1 = Z.2.2.1.size) (ok : okO 0 o) (hob : Z.2.1 ≤ ob) (hoc : rz_oc h cB 11) (hf : rz_f Z 40 150 (.ref cB :: [.int v1, .int v2]) (rz_mk h ι, w) = some (ouC o, (rz_mk h1 ι1, w1))) (hw1 : w1.1 ≤ w.1 + 5) (hw2 : w1.2 ≤ w.2 + 68) (hout : ∃ f, h1 ob = some (.inl (1, 1, f))) : vx_Met l yL_spread (Cond.codeWith yL_spread cL_spread 5 (some .int) [(0, 10, 13, 13)] :: rx_tbl) wrM (rx_Pc Z (wrX Z) [.ref cB, .int v1, .int v2, .ref ob] (rz_mk h ι, w)) (wQc Z 0 o h1 ι1 w1 ob) (fun _ _ _ => False) 6 74 (fun q => Z.2.1 ≤ q) := by
  refine vx_ofWH (cc := cL_spread) (maxL := 5) (ret := some .int) (hh := [(0, 10, 13, 13)]) (by decide) rfl ?_
  intro p e s m args below meth c s₁ B hml hv
  obtain ⟨rfl, hH, hK, hX⟩ := hv
  have hx := B.exec
  have hb := B.bytes
  have hr := B.returns
  have hlocks := B.notSynchronized
  have hts0 := atoms_spec (ws := Cond.codeWith yL_spread cL_spread 5 (some .int) [(0, 10, 13, 13)] :: rx_tbl) B.pre
  have hts := fun w hw => hts0 w (List.mem_cons_of_mem _ hw)
  have hown : s.vm.findClass "FarthestHeirLaw" = some m.cls := findClass_of_methodNamed B.named
  have htab := vx_table (x := yL_spread) B (hts0 _ List.mem_cons_self)
  have hl := lv_entry ([.ref cB, .int v1, .int v2, .ref ob]) (n := 5) (Nat.le_of_ble_eq_true rfl)
  rw [lg_entry_eq]
  generalize (lg_sl ([.ref cB, .int v1, .int v2, .ref ob]) ++ List.replicate (5 - (lg_sl ([.ref cB, .int v1, .int v2, .ref ob])).length) Slot.unset).toArray = ls at hl ⊢
  have hl : lv_has ls 5 [(0, .ref cB), (1, .int v1), (2, .int v2), (3, .ref ob)] := hl
  refine lv_aload_n hx hb dl_spread_0 rfl (lv_at hl 3 rfl) ?_
  refine lv_iconst (v := 0) hx hb dl_spread_1 (by decide) ?_
  refine lv_aload_n hx hb dl_spread_2 rfl (lv_at hl 0 rfl) ?_
  refine lv_iload_n hx hb dl_spread_3 rfl (lv_at hl 1 rfl) ?_
  refine lv_iload_n hx hb dl_spread_4 rfl (lv_at hl 2 rfl) ?_
  refine wr_main (t := 0) (n := 2) (pv := 5) (pl := 9) (pe := 17) (vs := [.int v1, .int v2]) hl9 hbs ⟨hx, hb, hml, hown, hts⟩ hr hlocks hK hX (show rx_ML[150]? = some rx_m150 from rfl) ⟨rl_w1272, rl_w1273, rl_w1274⟩ rx_p150 rfl hoc rfl hf hw1 hw2 ok hout hob hH (lv_sub hl [] rfl) ⟨by decide, by decide, by decide, by decide⟩ dl_spread_5 (Or.inl ⟨by decide, dl_spread_8, rfl⟩) dl_spread_9 dl_spread_10 (by decide) ⟨dl_spread_17, dl_spread_18⟩ ?_
  intro k hk H9 locs9 q9 ce nx cl sl hnx hH9 hlo9 hce hcv hcl9 hc9 hs9
  obtain rfl := okO.e0 (show okO 0 (.inr k) by rw [← hk]; exact ok)
  exact wr_catch (pr := 15) (ei := 4) (pre := []) hx hb hr hlocks hown (lv_sub hl [] rfl) hX hk (Or.inl rfl) htab (fun z hz => nomatch hz) (by decide) (by decide) (hts _ rl_w493) hnx hH9 hlo9 hce hcv hcl9 hc9 hs9 (Or.inr ⟨dl_spread_13, rfl⟩) (by decide) dl_spread_15 (by decide) dl_spread_16
theorem wr_masks {l : Launch} {Z : rx_Z} {h h1 : Nat → Option rx_E} {ι ι1 : Nat → Nat → Int32} {w w1 : Nat × Nat} {cB ob : Nat} {o : Value ⊕ Nat} {v1 : Int32} (hl9 : l.stackTraces = false) (hbs : Z.2.1 = Z.2.2.1.size) (ok : okO 1 o) (hob : Z.2.1 ≤ ob) (hoc : rz_oc h cB 11) (hf : rz_f Z 40 151 (.ref cB :: [.int v1]) (rz_mk h ι, w) = some (ouC o, (rz_mk h1 ι1, w1))) (hw1 : w1.1 ≤ w.1 + 5) (hw2 : w1.2 ≤ w.2 + 68) (hout : ∃ f, h1 ob = some (.inl (1, 1, f))) : vx_Met l yL_masks (Cond.codeWith yL_masks cL_masks 4 (some .int) [(0, 9, 12, 31)] :: rx_tbl) wrM (rx_Pc Z (wrX Z) [.ref cB, .int v1, .ref ob] (rz_mk h ι, w)) (wQc Z 1 o h1 ι1 w1 ob) (fun _ _ _ => False) 6 74 (fun q => Z.2.1 ≤ q) := by
  refine vx_ofWH (cc := cL_masks) (maxL := 4) (ret := some .int) (hh := [(0, 9, 12, 31)]) (by decide) rfl ?_
  intro p e s m args below meth c s₁ B hml hv
  obtain ⟨rfl, hH, hK, hX⟩ := hv
  have hx := B.exec
  have hb := B.bytes
  have hr := B.returns
  have hlocks := B.notSynchronized
  have hts0 := atoms_spec (ws := Cond.codeWith yL_masks cL_masks 4 (some .int) [(0, 9, 12, 31)] :: rx_tbl) B.pre
  have hts := fun w hw => hts0 w (List.mem_cons_of_mem _ hw)
  have hown : s.vm.findClass "FarthestHeirLaw" = some m.cls := findClass_of_methodNamed B.named
  have htab := vx_table (x := yL_masks) B (hts0 _ List.mem_cons_self)
  have hl := lv_entry ([.ref cB, .int v1, .ref ob]) (n := 4) (Nat.le_of_ble_eq_true rfl)
  rw [lg_entry_eq]
  generalize (lg_sl ([.ref cB, .int v1, .ref ob]) ++ List.replicate (4 - (lg_sl ([.ref cB, .int v1, .ref ob])).length) Slot.unset).toArray = ls at hl ⊢
  have hl : lv_has ls 4 [(0, .ref cB), (1, .int v1), (2, .ref ob)] := hl
  refine lv_aload_n hx hb dl_masks_0 rfl (lv_at hl 2 rfl) ?_
  refine lv_iconst (v := 0) hx hb dl_masks_1 (by decide) ?_
  refine lv_aload_n hx hb dl_masks_2 rfl (lv_at hl 0 rfl) ?_
  refine lv_iload_n hx hb dl_masks_3 rfl (lv_at hl 1 rfl) ?_
  refine wr_main (t := 1) (n := 1) (pv := 4) (pl := 8) (pe := 15) (vs := [.int v1]) hl9 hbs ⟨hx, hb, hml, hown, hts⟩ hr hlocks hK hX (show rx_ML[151]? = some rx_m151 from rfl) ⟨rl_w1280, rl_w1281, rl_w1282⟩ rx_p151 rfl hoc rfl hf hw1 hw2 ok hout hob hH (lv_sub hl [] rfl) ⟨by decide, by decide, by decide, by decide⟩ dl_masks_4 (Or.inl ⟨by decide, dl_masks_7, rfl⟩) dl_masks_8 dl_masks_9 (by decide) ⟨dl_masks_15, dl_masks_16⟩ ?_
  intro k hk H9 locs9 q9 ce nx cl sl hnx hH9 hlo9 hce hcv hcl9 hc9 hs9
  obtain rfl := okO.e1 (show okO 1 (.inr k) by rw [← hk]; exact ok)
  exact wr_catch (pr := 13) (ei := 3) (pre := []) hx hb hr hlocks hown (lv_sub hl [] rfl) hX hk (Or.inr rfl) htab (fun z hz => nomatch hz) (by decide) (by decide) (hts _ rl_w965) hnx hH9 hlo9 hce hcv hcl9 hc9 hs9 (Or.inl ⟨dl_masks_12, rfl, rfl⟩) (by decide) dl_masks_13 (by decide) dl_masks_14
theorem wr_rank {l : Launch} {Z : rx_Z} {h h1 : Nat → Option rx_E} {ι ι1 : Nat → Nat → Int32} {w w1 : Nat × Nat} {cB ob : Nat} {o : Value ⊕ Nat} {v1 : Int32} (hl9 : l.stackTraces = false) (hbs : Z.2.1 = Z.2.2.1.size) (ok : okO 0 o) (hob : Z.2.1 ≤ ob) (hoc : rz_oc h cB 11) (hf : rz_f Z 40 152 (.ref cB :: [.int v1]) (rz_mk h ι, w) = some (ouC o, (rz_mk h1 ι1, w1))) (hw1 : w1.1 ≤ w.1 + 5) (hw2 : w1.2 ≤ w.2 + 68) (hout : ∃ f, h1 ob = some (.inl (1, 1, f))) : vx_Met l yL_rank (Cond.codeWith yL_rank cL_rank 4 (some .int) [(0, 9, 12, 13)] :: rx_tbl) wrM (rx_Pc Z (wrX Z) [.ref cB, .int v1, .ref ob] (rz_mk h ι, w)) (wQc Z 0 o h1 ι1 w1 ob) (fun _ _ _ => False) 6 74 (fun q => Z.2.1 ≤ q) := by
  refine vx_ofWH (cc := cL_rank) (maxL := 4) (ret := some .int) (hh := [(0, 9, 12, 13)]) (by decide) rfl ?_
  intro p e s m args below meth c s₁ B hml hv
  obtain ⟨rfl, hH, hK, hX⟩ := hv
  have hx := B.exec
  have hb := B.bytes
  have hr := B.returns
  have hlocks := B.notSynchronized
  have hts0 := atoms_spec (ws := Cond.codeWith yL_rank cL_rank 4 (some .int) [(0, 9, 12, 13)] :: rx_tbl) B.pre
  have hts := fun w hw => hts0 w (List.mem_cons_of_mem _ hw)
  have hown : s.vm.findClass "FarthestHeirLaw" = some m.cls := findClass_of_methodNamed B.named
  have htab := vx_table (x := yL_rank) B (hts0 _ List.mem_cons_self)
  have hl := lv_entry ([.ref cB, .int v1, .ref ob]) (n := 4) (Nat.le_of_ble_eq_true rfl)
  rw [lg_entry_eq]
  generalize (lg_sl ([.ref cB, .int v1, .ref ob]) ++ List.replicate (4 - (lg_sl ([.ref cB, .int v1, .ref ob])).length) Slot.unset).toArray = ls at hl ⊢
  have hl : lv_has ls 4 [(0, .ref cB), (1, .int v1), (2, .ref ob)] := hl
  refine lv_aload_n hx hb dl_rank_0 rfl (lv_at hl 2 rfl) ?_
  refine lv_iconst (v := 0) hx hb dl_rank_1 (by decide) ?_
  refine lv_aload_n hx hb dl_rank_2 rfl (lv_at hl 0 rfl) ?_
  refine lv_iload_n hx hb dl_rank_3 rfl (lv_at hl 1 rfl) ?_
  refine wr_main (t := 0) (n := 1) (pv := 4) (pl := 8) (pe := 15) (vs := [.int v1]) hl9 hbs ⟨hx, hb, hml, hown, hts⟩ hr hlocks hK hX (show rx_ML[152]? = some rx_m152 from rfl) ⟨rl_w1288, rl_w1289, rl_w1290⟩ rx_p152 rfl hoc rfl hf hw1 hw2 ok hout hob hH (lv_sub hl [] rfl) ⟨by decide, by decide, by decide, by decide⟩ dl_rank_4 (Or.inl ⟨by decide, dl_rank_7, rfl⟩) dl_rank_8 dl_rank_9 (by decide) ⟨dl_rank_15, dl_rank_16⟩ ?_
  intro k hk H9 locs9 q9 ce nx cl sl hnx hH9 hlo9 hce hcv hcl9 hc9 hs9
  obtain rfl := okO.e0 (show okO 0 (.inr k) by rw [← hk]; exact ok)
  exact wr_catch (pr := 13) (ei := 3) (pre := []) hx hb hr hlocks hown (lv_sub hl [] rfl) hX hk (Or.inl rfl) htab (fun z hz => nomatch hz) (by decide) (by decide) (hts _ rl_w493) hnx hH9 hlo9 hce hcv hcl9 hc9 hs9 (Or.inl ⟨dl_rank_12, rfl, rfl⟩) (by decide) dl_rank_13 (by decide) dl_rank_14
theorem wr_mild {l : Launch} {Z : rx_Z} {h h1 : Nat → Option rx_E} {ι ι1 : Nat → Nat → Int32} {w w1 : Nat × Nat} {cB ob : Nat} {o : Value ⊕ Nat} {v1 : Int32} (hl9 : l.stackTraces = false) (hbs : Z.2.1 = Z.2.2.1.size) (ok : okO 0 o) (hob : Z.2.1 ≤ ob) (hoc : rz_oc h cB 11) (hf : rz_f Z 40 153 (.ref cB :: [.int v1]) (rz_mk h ι, w) = some (ouC o, (rz_mk h1 ι1, w1))) (hw1 : w1.1 ≤ w.1 + 5) (hw2 : w1.2 ≤ w.2 + 68) (hout : ∃ f, h1 ob = some (.inl (1, 1, f))) : vx_Met l yL_mild (Cond.codeWith yL_mild cL_mild 4 (some .int) [(0, 9, 12, 13)] :: rx_tbl) wrM (rx_Pc Z (wrX Z) [.ref cB, .int v1, .ref ob] (rz_mk h ι, w)) (wQc Z 0 o h1 ι1 w1 ob) (fun _ _ _ => False) 6 74 (fun q => Z.2.1 ≤ q) := by
  refine vx_ofWH (cc := cL_mild) (maxL := 4) (ret := some .int) (hh := [(0, 9, 12, 13)]) (by decide) rfl ?_
  intro p e s m args below meth c s₁ B hml hv
  obtain ⟨rfl, hH, hK, hX⟩ := hv
  have hx := B.exec
  have hb := B.bytes
  have hr := B.returns
  have hlocks := B.notSynchronized
  have hts0 := atoms_spec (ws := Cond.codeWith yL_mild cL_mild 4 (some .int) [(0, 9, 12, 13)] :: rx_tbl) B.pre
  have hts := fun w hw => hts0 w (List.mem_cons_of_mem _ hw)
  have hown : s.vm.findClass "FarthestHeirLaw" = some m.cls := findClass_of_methodNamed B.named
  have htab := vx_table (x := yL_mild) B (hts0 _ List.mem_cons_self)
  have hl := lv_entry ([.ref cB, .int v1, .ref ob]) (n := 4) (Nat.le_of_ble_eq_true rfl)
  rw [lg_entry_eq]
  generalize (lg_sl ([.ref cB, .int v1, .ref ob]) ++ List.replicate (4 - (lg_sl ([.ref cB, .int v1, .ref ob])).length) Slot.unset).toArray = ls at hl ⊢
  have hl : lv_has ls 4 [(0, .ref cB), (1, .int v1), (2, .ref ob)] := hl
  refine lv_aload_n hx hb dl_mild_0 rfl (lv_at hl 2 rfl) ?_
  refine lv_iconst (v := 0) hx hb dl_mild_1 (by decide) ?_
  refine lv_aload_n hx hb dl_mild_2 rfl (lv_at hl 0 rfl) ?_
  refine lv_iload_n hx hb dl_mild_3 rfl (lv_at hl 1 rfl) ?_
  refine wr_main (t := 0) (n := 1) (pv := 4) (pl := 8) (pe := 15) (vs := [.int v1]) hl9 hbs ⟨hx, hb, hml, hown, hts⟩ hr hlocks hK hX (show rx_ML[153]? = some rx_m153 from rfl) ⟨rl_w1299, rl_w1300, rl_w1301⟩ rx_p153 rfl hoc rfl hf hw1 hw2 ok hout hob hH (lv_sub hl [] rfl) ⟨by decide, by decide, by decide, by decide⟩ dl_mild_4 (Or.inl ⟨by decide, dl_mild_7, rfl⟩) dl_mild_8 dl_mild_9 (by decide) ⟨dl_mild_15, dl_mild_16⟩ ?_
  intro k hk H9 locs9 q9 ce nx cl sl hnx hH9 hlo9 hce hcv hcl9 hc9 hs9
  obtain rfl := okO.e0 (show okO 0 (.inr k) by rw [← hk]; exact ok)
  exact wr_catch (pr := 13) (ei := 3) (pre := []) hx hb hr hlocks hown (lv_sub hl [] rfl) hX hk (Or.inl rfl) htab (fun z hz => nomatch hz) (by decide) (by decide) (hts _ rl_w493) hnx hH9 hlo9 hce hcv hcl9 hc9 hs9 (Or.inl ⟨dl_mild_12, rfl, rfl⟩) (by decide) dl_mild_13 (by decide) dl_mild_14
theorem wr_unlike {l : Launch} {Z : rx_Z} {h h1 : Nat → Option rx_E} {ι ι1 : Nat → Nat → Int32} {w w1 : Nat × Nat} {cB ob : Nat} {o : Value ⊕ Nat} {v1 : Int32} (hl9 : l.stackTraces = false) (hbs : Z.2.1 = Z.2.2.1.size) (ok : okO 1 o) (hob : Z.2.1 ≤ ob) (hoc : rz_oc h cB 11) (hf : rz_f Z 40 154 (.ref cB :: [.int v1]) (rz_mk h ι, w) = some (ouC o, (rz_mk h1 ι1, w1))) (hw1 : w1.1 ≤ w.1 + 5) (hw2 : w1.2 ≤ w.2 + 68) (hout : ∃ f, h1 ob = some (.inl (1, 1, f))) : vx_Met l yL_unlike (Cond.codeWith yL_unlike cL_unlike 4 (some .int) [(0, 9, 12, 31)] :: rx_tbl) wrM (rx_Pc Z (wrX Z) [.ref cB, .int v1, .ref ob] (rz_mk h ι, w)) (wQc Z 1 o h1 ι1 w1 ob) (fun _ _ _ => False) 6 74 (fun q => Z.2.1 ≤ q) := by
  refine vx_ofWH (cc := cL_unlike) (maxL := 4) (ret := some .int) (hh := [(0, 9, 12, 31)]) (by decide) rfl ?_
  intro p e s m args below meth c s₁ B hml hv
  obtain ⟨rfl, hH, hK, hX⟩ := hv
  have hx := B.exec
  have hb := B.bytes
  have hr := B.returns
  have hlocks := B.notSynchronized
  have hts0 := atoms_spec (ws := Cond.codeWith yL_unlike cL_unlike 4 (some .int) [(0, 9, 12, 31)] :: rx_tbl) B.pre
  have hts := fun w hw => hts0 w (List.mem_cons_of_mem _ hw)
  have hown : s.vm.findClass "FarthestHeirLaw" = some m.cls := findClass_of_methodNamed B.named
  have htab := vx_table (x := yL_unlike) B (hts0 _ List.mem_cons_self)
  have hl := lv_entry ([.ref cB, .int v1, .ref ob]) (n := 4) (Nat.le_of_ble_eq_true rfl)
  rw [lg_entry_eq]
  generalize (lg_sl ([.ref cB, .int v1, .ref ob]) ++ List.replicate (4 - (lg_sl ([.ref cB, .int v1, .ref ob])).length) Slot.unset).toArray = ls at hl ⊢
  have hl : lv_has ls 4 [(0, .ref cB), (1, .int v1), (2, .ref ob)] := hl
  refine lv_aload_n hx hb dl_unlike_0 rfl (lv_at hl 2 rfl) ?_
  refine lv_iconst (v := 0) hx hb dl_unlike_1 (by decide) ?_
  refine lv_aload_n hx hb dl_unlike_2 rfl (lv_at hl 0 rfl) ?_
  refine lv_iload_n hx hb dl_unlike_3 rfl (lv_at hl 1 rfl) ?_
  refine wr_main (t := 1) (n := 1) (pv := 4) (pl := 8) (pe := 15) (vs := [.int v1]) hl9 hbs ⟨hx, hb, hml, hown, hts⟩ hr hlocks hK hX (show rx_ML[154]? = some rx_m154 from rfl) ⟨rl_w1310, rl_w1311, rl_w1312⟩ rx_p154 rfl hoc rfl hf hw1 hw2 ok hout hob hH (lv_sub hl [] rfl) ⟨by decide, by decide, by decide, by decide⟩ dl_unlike_4 (Or.inl ⟨by decide, dl_unlike_7, rfl⟩) dl_unlike_8 dl_unlike_9 (by decide) ⟨dl_unlike_15, dl_unlike_16⟩ ?_
  intro k hk H9 locs9 q9 ce nx cl sl hnx hH9 hlo9 hce hcv hcl9 hc9 hs9
  obtain rfl := okO.e1 (show okO 1 (.inr k) by rw [← hk]; exact ok)
  exact wr_catch (pr := 13) (ei := 3) (pre := []) hx hb hr hlocks hown (lv_sub hl [] rfl) hX hk (Or.inr rfl) htab (fun z hz => nomatch hz) (by decide) (by decide) (hts _ rl_w965) hnx hH9 hlo9 hce hcv hcl9 hc9 hs9 (Or.inl ⟨dl_unlike_12, rfl, rfl⟩) (by decide) dl_unlike_13 (by decide) dl_unlike_14
theorem wr_century {l : Launch} {Z : rx_Z} {h h1 : Nat → Option rx_E} {ι ι1 : Nat → Nat → Int32} {w w1 : Nat × Nat} {cB ob : Nat} {o : Value ⊕ Nat} {v1 v2 v3 v4 : Int32} (hl9 : l.stackTraces = false) (hbs : Z.2.1 = Z.2.2.1.size) (ok : okO 0 o) (hob : Z.2.1 ≤ ob) (hoc : rz_oc h cB 11) (hf : rz_f Z 40 155 (.ref cB :: [.int v1, .int v2, .int v3, .int v4]) (rz_mk h ι, w) = some (ouC o, (rz_mk h1 ι1, w1))) (hw1 : w1.1 ≤ w.1 + 5) (hw2 : w1.2 ≤ w.2 + 68) (hout : ∃ f, h1 ob = some (.inl (1, 1, f))) : vx_Met l yL_century (Cond.codeWith yL_century cL_century 7 (some .int) [(0, 14, 17, 13)] :: rx_tbl) wrM (rx_Pc Z (wrX Z) [.ref cB, .int v1, .int v2, .int v3, .int v4, .ref ob] (rz_mk h ι, w)) (wQc Z 0 o h1 ι1 w1 ob) (fun _ _ _ => False) 6 74 (fun q => Z.2.1 ≤ q) := by
  refine vx_ofWH (cc := cL_century) (maxL := 7) (ret := some .int) (hh := [(0, 14, 17, 13)]) (by decide) rfl ?_
  intro p e s m args below meth c s₁ B hml hv
  obtain ⟨rfl, hH, hK, hX⟩ := hv
  have hx := B.exec
  have hb := B.bytes
  have hr := B.returns
  have hlocks := B.notSynchronized
  have hts0 := atoms_spec (ws := Cond.codeWith yL_century cL_century 7 (some .int) [(0, 14, 17, 13)] :: rx_tbl) B.pre
  have hts := fun w hw => hts0 w (List.mem_cons_of_mem _ hw)
  have hown : s.vm.findClass "FarthestHeirLaw" = some m.cls := findClass_of_methodNamed B.named
  have htab := vx_table (x := yL_century) B (hts0 _ List.mem_cons_self)
  have hl := lv_entry ([.ref cB, .int v1, .int v2, .int v3, .int v4, .ref ob]) (n := 7) (Nat.le_of_ble_eq_true rfl)
  rw [lg_entry_eq]
  generalize (lg_sl ([.ref cB, .int v1, .int v2, .int v3, .int v4, .ref ob]) ++ List.replicate (7 - (lg_sl ([.ref cB, .int v1, .int v2, .int v3, .int v4, .ref ob])).length) Slot.unset).toArray = ls at hl ⊢
  have hl : lv_has ls 7 [(0, .ref cB), (1, .int v1), (2, .int v2), (3, .int v3), (4, .int v4), (5, .ref ob)] := hl
  refine lv_aload hx hb dl_century_0 (lv_at hl 5 rfl) ?_
  refine lv_iconst (v := 0) hx hb dl_century_2 (by decide) ?_
  refine lv_aload_n hx hb dl_century_3 rfl (lv_at hl 0 rfl) ?_
  refine lv_iload_n hx hb dl_century_4 rfl (lv_at hl 1 rfl) ?_
  refine lv_iload_n hx hb dl_century_5 rfl (lv_at hl 2 rfl) ?_
  refine lv_iload_n hx hb dl_century_6 rfl (lv_at hl 3 rfl) ?_
  refine lv_iload hx hb dl_century_7 (lv_at hl 4 rfl) ?_
  refine wr_main (t := 0) (n := 4) (pv := 9) (pl := 13) (pe := 21) (vs := [.int v1, .int v2, .int v3, .int v4]) hl9 hbs ⟨hx, hb, hml, hown, hts⟩ hr hlocks hK hX (show rx_ML[155]? = some rx_m155 from rfl) ⟨rl_w1317, rl_w1318, rl_w1319⟩ rx_p155 rfl hoc rfl hf hw1 hw2 ok hout hob hH (lv_sub hl [] rfl) ⟨by decide, by decide, by decide, by decide⟩ dl_century_9 (Or.inl ⟨by decide, dl_century_12, rfl⟩) dl_century_13 dl_century_14 (by decide) ⟨dl_century_21, dl_century_22⟩ ?_
  intro k hk H9 locs9 q9 ce nx cl sl hnx hH9 hlo9 hce hcv hcl9 hc9 hs9
  obtain rfl := okO.e0 (show okO 0 (.inr k) by rw [← hk]; exact ok)
  exact wr_catch (pr := 19) (ei := 6) (pre := []) hx hb hr hlocks hown (lv_sub hl [] rfl) hX hk (Or.inl rfl) htab (fun z hz => nomatch hz) (by decide) (by decide) (hts _ rl_w493) hnx hH9 hlo9 hce hcv hcl9 hc9 hs9 (Or.inr ⟨dl_century_17, rfl⟩) (by decide) dl_century_19 (by decide) dl_century_20
theorem wr_span {l : Launch} {Z : rx_Z} {h h1 : Nat → Option rx_E} {ι ι1 : Nat → Nat → Int32} {w w1 : Nat × Nat} {cB ob : Nat} {o : Value ⊕ Nat} {v1 v2 v3 v4 v5 v6 : Int32} (hl9 : l.stackTraces = false) (hbs : Z.2.1 = Z.2.2.1.size) (ok : okO 0 o) (hob : Z.2.1 ≤ ob) (hoc : rz_oc h cB 11) (hf : rz_f Z 40 156 (.ref cB :: [.int v1, .int v2, .int v3, .int v4, .int v5, .int v6]) (rz_mk h ι, w) = some (ouC o, (rz_mk h1 ι1, w1))) (hw1 : w1.1 ≤ w.1 + 5) (hw2 : w1.2 ≤ w.2 + 68) (hout : ∃ f, h1 ob = some (.inl (1, 1, f))) : vx_Met l yL_span (Cond.codeWith yL_span cL_span 9 (some .int) [(0, 18, 21, 13)] :: rx_tbl) wrM (rx_Pc Z (wrX Z) [.ref cB, .int v1, .int v2, .int v3, .int v4, .int v5, .int v6, .ref ob] (rz_mk h ι, w)) (wQc Z 0 o h1 ι1 w1 ob) (fun _ _ _ => False) 6 74 (fun q => Z.2.1 ≤ q) := by
  refine vx_ofWH (cc := cL_span) (maxL := 9) (ret := some .int) (hh := [(0, 18, 21, 13)]) (by decide) rfl ?_
  intro p e s m args below meth c s₁ B hml hv
  obtain ⟨rfl, hH, hK, hX⟩ := hv
  have hx := B.exec
  have hb := B.bytes
  have hr := B.returns
  have hlocks := B.notSynchronized
  have hts0 := atoms_spec (ws := Cond.codeWith yL_span cL_span 9 (some .int) [(0, 18, 21, 13)] :: rx_tbl) B.pre
  have hts := fun w hw => hts0 w (List.mem_cons_of_mem _ hw)
  have hown : s.vm.findClass "FarthestHeirLaw" = some m.cls := findClass_of_methodNamed B.named
  have htab := vx_table (x := yL_span) B (hts0 _ List.mem_cons_self)
  have hl := lv_entry ([.ref cB, .int v1, .int v2, .int v3, .int v4, .int v5, .int v6, .ref ob]) (n := 9) (Nat.le_of_ble_eq_true rfl)
  rw [lg_entry_eq]
  generalize (lg_sl ([.ref cB, .int v1, .int v2, .int v3, .int v4, .int v5, .int v6, .ref ob]) ++ List.replicate (9 - (lg_sl ([.ref cB, .int v1, .int v2, .int v3, .int v4, .int v5, .int v6, .ref ob])).length) Slot.unset).toArray = ls at hl ⊢
  have hl : lv_has ls 9 [(0, .ref cB), (1, .int v1), (2, .int v2), (3, .int v3), (4, .int v4), (5, .int v5), (6, .int v6), (7, .ref ob)] := hl
  refine lv_aload hx hb dl_span_0 (lv_at hl 7 rfl) ?_
  refine lv_iconst (v := 0) hx hb dl_span_2 (by decide) ?_
  refine lv_aload_n hx hb dl_span_3 rfl (lv_at hl 0 rfl) ?_
  refine lv_iload_n hx hb dl_span_4 rfl (lv_at hl 1 rfl) ?_
  refine lv_iload_n hx hb dl_span_5 rfl (lv_at hl 2 rfl) ?_
  refine lv_iload_n hx hb dl_span_6 rfl (lv_at hl 3 rfl) ?_
  refine lv_iload hx hb dl_span_7 (lv_at hl 4 rfl) ?_
  refine lv_iload hx hb dl_span_9 (lv_at hl 5 rfl) ?_
  refine lv_iload hx hb dl_span_11 (lv_at hl 6 rfl) ?_
  refine wr_main (t := 0) (n := 6) (pv := 13) (pl := 17) (pe := 25) (vs := [.int v1, .int v2, .int v3, .int v4, .int v5, .int v6]) hl9 hbs ⟨hx, hb, hml, hown, hts⟩ hr hlocks hK hX (show rx_ML[156]? = some rx_m156 from rfl) ⟨rl_w1336, rl_w1337, rl_w1338⟩ rx_p156 rfl hoc rfl hf hw1 hw2 ok hout hob hH (lv_sub hl [] rfl) ⟨by decide, by decide, by decide, by decide⟩ dl_span_13 (Or.inl ⟨by decide, dl_span_16, rfl⟩) dl_span_17 dl_span_18 (by decide) ⟨dl_span_25, dl_span_26⟩ ?_
  intro k hk H9 locs9 q9 ce nx cl sl hnx hH9 hlo9 hce hcv hcl9 hc9 hs9
  obtain rfl := okO.e0 (show okO 0 (.inr k) by rw [← hk]; exact ok)
  exact wr_catch (pr := 23) (ei := 8) (pre := []) hx hb hr hlocks hown (lv_sub hl [] rfl) hX hk (Or.inl rfl) htab (fun z hz => nomatch hz) (by decide) (by decide) (hts _ rl_w493) hnx hH9 hlo9 hce hcv hcl9 hc9 hs9 (Or.inr ⟨dl_span_21, rfl⟩) (by decide) dl_span_23 (by decide) dl_span_24
