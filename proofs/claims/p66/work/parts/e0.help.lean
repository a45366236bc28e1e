/-! ===== the law's helpers: post, prompt and texts, with the number of what was thrown ===== -/
/-- the number of a text that did not run: -1 malformed, -2 a command failed -/
def exR (q : Nat) : Int := if q = 3 then -1 else -2
def resN (o : Nat × Int × SO) : Int := if o.1 = 0 then o.2.1 else exR o.1
set_option maxRecDepth 100000 in
set_option maxHeartbeats 4000000 in
theorem l_entry (l : Launch) (hl9 : l.stackTraces = false) (D : va_G) (cA : Nat → ClassId) (ad an tt : Nat → Nat) (hr : Nat → Nat → Nat) (h0 : Nat → Nat) (sz n : Nat) (x1 : Int32) (x2 : Int32) (x3 : Int32) (t : ThlS) (r : Nat → BooS) (W : SO) (hV : V n t r W) (hn : n + 1 ≤ 512) : lM l yL_entry (.codeWith yL_entry cL_entry 5 (some .int) hh_entry) ({ frames := 8, cells := 1, slots := 6, locals := 146 }) D cA ad an tt (fun _ => True) (TR cA ad hr h0 t r) sz [.ref (h0 0), .int x1, .int x2, .int x3] (fun _ => some (.int (iI (resO (lO W (gPost (oS W) x1.toInt x2.toInt x3.toInt)))))) (fun u : ThlS × (Nat → BooS) => V (n + 1) u.1 u.2 (lO W (gPost (oS W) x1.toInt x2.toInt x3.toInt)).2.2) (fun u => TR cA ad hr h0 u.1 u.2) 1 6 := by
  obtain ⟨t9, r9, h9, hV9⟩ := V_post hV hn x1 x2 x3
  have hq := q_post W x1.toInt x2.toInt x3.toInt
  generalize lO W (gPost (oS W) x1.toInt x2.toInt x3.toInt) = o at h9 hV9 hq ⊢
  obtain ⟨k, v, W9⟩ := o
  dsimp only at h9 hV9 hq ⊢
  generalize erm : ({ frames := 8, cells := 1, slots := 6, locals := 146 } : Room) = rm
  refine lMetW (by decide) rfl (Nat.le_of_ble_eq_true rfl) ?_
  intro p e s m below meth c A eA B hP hD hS hsz _ htab ls hl
  have hl : lv_has ls 5 [(0, .ref (h0 0)), (1, .int x1), (2, .int x2), (3, .int x3)] := hl
  have hx := B.1.1
  have hb := B.1.2.1
  have hP := ocP hP
  have hD := ocPD hD
  refine lv_aload_n hx hb dL_entry_0 rfl (lv_at hl 0 rfl) ?_
  refine lv_iload_n hx hb dL_entry_1 rfl (lv_at hl 1 rfl) ?_
  refine lv_iload_n hx hb dL_entry_2 rfl (lv_at hl 2 rfl) ?_
  refine lv_iload_n hx hb dL_entry_3 rfl (lv_at hl 3 rfl) ?_
  refine ocRx (t9 := t9) (r9 := r9) (mc := 1) (ms := 6) B rfl hP hD hS (kX12_post l hl9 D cA ad hr h0 _ 2000 x1 x2 x3 t r (k, iI v, t9, r9) h9) qco_X12_post qml_L_53 qin_X12_post qse_X12_post qini_X12 (show xCd yX12_post 3 = true by decide +kernel) (by rw [← erm]; rfl) hl.1 rfl (lv_room (Nat.le_of_ble_eq_true rfl)) dL_entry_4 ⟨by rw [← erm]; exact Nat.le_of_ble_eq_true rfl, by rw [← erm]; exact Nat.le_of_ble_eq_true rfl⟩ (fun hne q9 ce H locs hP hD hS hc1 hc2 hc3 => ?_) (fun hk H locs hP hD hS => ?_)
  · have hP := ocQ hP
    have hD := ocQD hD
    rcases hq with hq | hq
    · exact absurd hq hne
    rcases List.mem_cons.mp hq with hq | hq
    · subst hq
      refine vx_catch B.1.2.2.2.1 ((tableOf hh_entry).take 0) ⟨0, 7, 8, 57⟩ ((tableOf hh_entry).drop 1) (htab.trans (by decide +kernel)) (lPass B.1.2.2.2.2 B.2.2.2.2.2.1.2.1 (E := 1) (by decide) (by decide +kernel)) (by decide) (by decide) (B.1.2.2.2.2 _ qcx_L_57) (B.2.2.2.2.2.1.1.use qca_1) hc1 hc2 hc3 ?_
      refine lv_astore (lv' := [(4, .ref q9), (0, .ref (h0 0)), (1, .int x1), (2, .int x2), (3, .int x3)]) hx hb dL_entry_8 hl (by decide) rfl (fun ls hl => ?_)
      refine lv_ldc hx hb B.1.2.2.2.1 (B.1.2.2.2.2 _ qci_L_59) dL_entry_10 ?_
      exact lIret (v := (-900001)) (t9, r9) (congrArg some (congrArg Value.int (show iI (exC 1) = (-900001 : Int32) by decide +kernel))) hV9 hx hb B.2.1 B.2.2.1 hP B.2.2.2.1 hD hS dL_entry_12
    have hq := List.mem_singleton.mp hq
    subst hq
    refine vx_catch B.1.2.2.2.1 ((tableOf hh_entry).take 1) ⟨0, 7, 13, 60⟩ ((tableOf hh_entry).drop 2) (htab.trans (by decide +kernel)) (lPass B.1.2.2.2.2 B.2.2.2.2.2.1.2.1 (E := 3) (by decide) (by decide +kernel)) (by decide) (by decide) (B.1.2.2.2.2 _ qcx_L_60) (B.2.2.2.2.2.1.1.use qca_3) hc1 hc2 hc3 ?_
    refine lv_astore (lv' := [(4, .ref q9), (0, .ref (h0 0)), (1, .int x1), (2, .int x2), (3, .int x3)]) hx hb dL_entry_13 hl (by decide) rfl (fun ls hl => ?_)
    refine lv_ldc hx hb B.1.2.2.2.1 (B.1.2.2.2.2 _ qci_L_62) dL_entry_15 ?_
    exact lIret (v := (-900002)) (t9, r9) (congrArg some (congrArg Value.int (show iI (exC 3) = (-900002 : Int32) by decide +kernel))) hV9 hx hb B.2.1 B.2.2.1 hP B.2.2.2.1 hD hS dL_entry_17
  · have hP := ocQ hP
    have hD := ocQD hD
    subst hk
    exact lIret (t9, r9) rfl hV9 hx hb B.2.1 B.2.2.1 hP B.2.2.2.1 hD hS dL_entry_7
set_option maxRecDepth 100000 in
set_option maxHeartbeats 4000000 in
theorem l_prompt (l : Launch) (hl9 : l.stackTraces = false) (D : va_G) (cA : Nat → ClassId) (ad an tt : Nat → Nat) (hr : Nat → Nat → Nat) (h0 : Nat → Nat) (sz n : Nat) (x1 : Int32) (x2 : Int32) (x3 : Int32) (x4 : Int32) (x5 : Int32) (t : ThlS) (r : Nat → BooS) (W : SO) (hV : V n t r W) (hn : n + 1 ≤ 512) : lM l yL_prompt (.codeWith yL_prompt cL_prompt 7 (some .int) hh_prompt) ({ frames := 8, cells := 2, slots := 12, locals := 148 }) D cA ad an tt (fun _ => True) (TR cA ad hr h0 t r) sz [.ref (h0 0), .int x1, .int x2, .int x3, .int x4, .int x5] (fun _ => some (.int (iI (resO (lO W (gPrompt (oS W) x1.toInt x2.toInt x3.toInt x4.toInt x5.toInt)))))) (fun u : ThlS × (Nat → BooS) => V (n + 1) u.1 u.2 (lO W (gPrompt (oS W) x1.toInt x2.toInt x3.toInt x4.toInt x5.toInt)).2.2) (fun u => TR cA ad hr h0 u.1 u.2) 2 12 := by
  obtain ⟨t9, r9, h9, hV9⟩ := V_prompt hV hn x1 x2 x3 x4 x5
  have hq := q_prompt W x1.toInt x2.toInt x3.toInt x4.toInt x5.toInt
  generalize lO W (gPrompt (oS W) x1.toInt x2.toInt x3.toInt x4.toInt x5.toInt) = o at h9 hV9 hq ⊢
  obtain ⟨k, v, W9⟩ := o
  dsimp only at h9 hV9 hq ⊢
  generalize erm : ({ frames := 8, cells := 2, slots := 12, locals := 148 } : Room) = rm
  refine lMetW (by decide) rfl (Nat.le_of_ble_eq_true rfl) ?_
  intro p e s m below meth c A eA B hP hD hS hsz _ htab ls hl
  have hl : lv_has ls 7 [(0, .ref (h0 0)), (1, .int x1), (2, .int x2), (3, .int x3), (4, .int x4), (5, .int x5)] := hl
  have hx := B.1.1
  have hb := B.1.2.1
  have hP := ocP hP
  have hD := ocPD hD
  refine lv_aload_n hx hb dL_prompt_0 rfl (lv_at hl 0 rfl) ?_
  refine lv_iload_n hx hb dL_prompt_1 rfl (lv_at hl 1 rfl) ?_
  refine lv_iload_n hx hb dL_prompt_2 rfl (lv_at hl 2 rfl) ?_
  refine lv_iload_n hx hb dL_prompt_3 rfl (lv_at hl 3 rfl) ?_
  refine lv_iload hx hb dL_prompt_4 (lv_at hl 4 rfl) ?_
  refine lv_iload hx hb dL_prompt_6 (lv_at hl 5 rfl) ?_
  refine ocRx (t9 := t9) (r9 := r9) (mc := 2) (ms := 12) B rfl hP hD hS (kX12_prompt l hl9 D cA ad hr h0 _ 2000 x1 x2 x3 x4 x5 t r (k, iI v, t9, r9) h9) qco_X12_prompt qml_L_63 qin_X12_prompt qse_X12_prompt qini_X12 (show xCd yX12_prompt 5 = true by decide +kernel) (by rw [← erm]; rfl) hl.1 rfl (lv_room (Nat.le_of_ble_eq_true rfl)) dL_prompt_8 ⟨by rw [← erm]; exact Nat.le_of_ble_eq_true rfl, by rw [← erm]; exact Nat.le_of_ble_eq_true rfl⟩ (fun hne q9 ce H locs hP hD hS hc1 hc2 hc3 => ?_) (fun hk H locs hP hD hS => ?_)
  · have hP := ocQ hP
    have hD := ocQD hD
    rcases hq with hq | hq
    · exact absurd hq hne
    rcases List.mem_cons.mp hq with hq | hq
    · subst hq
      refine vx_catch B.1.2.2.2.1 ((tableOf hh_prompt).take 0) ⟨0, 11, 12, 57⟩ ((tableOf hh_prompt).drop 1) (htab.trans (by decide +kernel)) (lPass B.1.2.2.2.2 B.2.2.2.2.2.1.2.1 (E := 1) (by decide) (by decide +kernel)) (by decide) (by decide) (B.1.2.2.2.2 _ qcx_L_57) (B.2.2.2.2.2.1.1.use qca_1) hc1 hc2 hc3 ?_
      refine lv_astore (lv' := [(6, .ref q9), (0, .ref (h0 0)), (1, .int x1), (2, .int x2), (3, .int x3), (4, .int x4), (5, .int x5)]) hx hb dL_prompt_12 hl (by decide) rfl (fun ls hl => ?_)
      refine lv_ldc hx hb B.1.2.2.2.1 (B.1.2.2.2.2 _ qci_L_59) dL_prompt_14 ?_
      exact lIret (v := (-900001)) (t9, r9) (congrArg some (congrArg Value.int (show iI (exC 1) = (-900001 : Int32) by decide +kernel))) hV9 hx hb B.2.1 B.2.2.1 hP B.2.2.2.1 hD hS dL_prompt_16
    rcases List.mem_cons.mp hq with hq | hq
    · subst hq
      refine vx_catch B.1.2.2.2.1 ((tableOf hh_prompt).take 1) ⟨0, 11, 17, 60⟩ ((tableOf hh_prompt).drop 2) (htab.trans (by decide +kernel)) (lPass B.1.2.2.2.2 B.2.2.2.2.2.1.2.1 (E := 3) (by decide) (by decide +kernel)) (by decide) (by decide) (B.1.2.2.2.2 _ qcx_L_60) (B.2.2.2.2.2.1.1.use qca_3) hc1 hc2 hc3 ?_
      refine lv_astore (lv' := [(6, .ref q9), (0, .ref (h0 0)), (1, .int x1), (2, .int x2), (3, .int x3), (4, .int x4), (5, .int x5)]) hx hb dL_prompt_17 hl (by decide) rfl (fun ls hl => ?_)
      refine lv_ldc hx hb B.1.2.2.2.1 (B.1.2.2.2.2 _ qci_L_62) dL_prompt_19 ?_
      exact lIret (v := (-900002)) (t9, r9) (congrArg some (congrArg Value.int (show iI (exC 3) = (-900002 : Int32) by decide +kernel))) hV9 hx hb B.2.1 B.2.2.1 hP B.2.2.2.1 hD hS dL_prompt_21
    have hq := List.mem_singleton.mp hq
    subst hq
    refine vx_catch B.1.2.2.2.1 ((tableOf hh_prompt).take 2) ⟨0, 11, 22, 66⟩ ((tableOf hh_prompt).drop 3) (htab.trans (by decide +kernel)) (lPass B.1.2.2.2.2 B.2.2.2.2.2.1.2.1 (E := 4) (by decide) (by decide +kernel)) (by decide) (by decide) (B.1.2.2.2.2 _ qcx_L_66) (B.2.2.2.2.2.1.1.use qca_4) hc1 hc2 hc3 ?_
    refine lv_astore (lv' := [(6, .ref q9), (0, .ref (h0 0)), (1, .int x1), (2, .int x2), (3, .int x3), (4, .int x4), (5, .int x5)]) hx hb dL_prompt_22 hl (by decide) rfl (fun ls hl => ?_)
    refine lv_ldc hx hb B.1.2.2.2.1 (B.1.2.2.2.2 _ qci_L_68) dL_prompt_24 ?_
    exact lIret (v := (-900003)) (t9, r9) (congrArg some (congrArg Value.int (show iI (exC 4) = (-900003 : Int32) by decide +kernel))) hV9 hx hb B.2.1 B.2.2.1 hP B.2.2.2.1 hD hS dL_prompt_26
  · have hP := ocQ hP
    have hD := ocQD hD
    subst hk
    exact lIret (t9, r9) rfl hV9 hx hb B.2.1 B.2.2.1 hP B.2.2.2.1 hD hS dL_prompt_11
set_option maxRecDepth 100000 in
set_option maxHeartbeats 4000000 in
theorem l_runs (l : Launch) (hl9 : l.stackTraces = false) (D : va_G) (cA : Nat → ClassId) (ad an tt : Nat → Nat) (hr : Nat → Nat → Nat) (h0 : Nat → Nat) (sz n : Nat) (t : ThlS) (r : Nat → BooS) (W : SO) (hV : V n t r W) (hn : n + 12 ≤ 512) : lM l yL_runs (.codeWith yL_runs cL_runs 2 (some .int) hh_runs) ({ frames := 9, cells := 1, slots := 6, locals := 197 }) D cA ad an tt (fun _ => True) (TR cA ad hr h0 t r) sz [.ref (h0 0)] (fun _ => some (.int (iI (resN (oRun W))))) (fun u : ThlS × (Nat → BooS) => V (n + 12) u.1 u.2 (oRun W).2.2) (fun u => TR cA ad hr h0 u.1 u.2) 1 6 := by
  obtain ⟨t9, r9, h9, hV9⟩ := V_run hV hn
  have hq := q_run W
  generalize oRun W = o at h9 hV9 hq ⊢
  obtain ⟨k, v, W9⟩ := o
  dsimp only at h9 hV9 hq ⊢
  generalize erm : ({ frames := 9, cells := 1, slots := 6, locals := 197 } : Room) = rm
  refine lMetW (by decide) rfl (Nat.le_of_ble_eq_true rfl) ?_
  intro p e s m below meth c A eA B hP hD hS hsz _ htab ls hl
  have hl : lv_has ls 2 [(0, .ref (h0 0))] := hl
  have hx := B.1.1
  have hb := B.1.2.1
  have hP := ocP hP
  have hD := ocPD hD
  refine lv_aload_n hx hb dL_runs_0 rfl (lv_at hl 0 rfl) ?_
  refine ocRx (t9 := t9) (r9 := r9) (mc := 1) (ms := 6) B rfl hP hD hS (kX12_runCommands l hl9 D cA ad hr h0 _ 2000  t r (k, iI v, t9, r9) h9) qco_X12_runCommands qml_L_195 qin_X12_runCommands qse_X12_runCommands qini_X12 (show xCd yX12_runCommands 0 = true by decide +kernel) (by rw [← erm]; rfl) hl.1 rfl (lv_room (Nat.le_of_ble_eq_true rfl)) dL_runs_1 ⟨by rw [← erm]; exact Nat.le_of_ble_eq_true rfl, by rw [← erm]; exact Nat.le_of_ble_eq_true rfl⟩ (fun hne q9 ce H locs hP hD hS hc1 hc2 hc3 => ?_) (fun hk H locs hP hD hS => ?_)
  · have hP := ocQ hP
    have hD := ocQD hD
    rcases hq with hq | hq
    · exact absurd hq hne
    rcases List.mem_cons.mp hq with hq | hq
    · subst hq
      refine vx_catch B.1.2.2.2.1 ((tableOf hh_runs).take 0) ⟨0, 4, 5, 60⟩ ((tableOf hh_runs).drop 1) (htab.trans (by decide +kernel)) (lPass B.1.2.2.2.2 B.2.2.2.2.2.1.2.1 (E := 3) (by decide) (by decide +kernel)) (by decide) (by decide) (B.1.2.2.2.2 _ qcx_L_60) (B.2.2.2.2.2.1.1.use qca_3) hc1 hc2 hc3 ?_
      refine lv_astore_n (lv' := [(1, .ref q9), (0, .ref (h0 0))]) hx hb dL_runs_5 rfl hl (by decide) rfl (fun ls hl => ?_)
      refine lv_iconst (v := (-1)) hx hb dL_runs_6 (by decide) ?_
      exact lIret (v := (-1)) (t9, r9) (congrArg some (congrArg Value.int (show iI (exR 3) = (-1 : Int32) by decide +kernel))) hV9 hx hb B.2.1 B.2.2.1 hP B.2.2.2.1 hD hS dL_runs_7
    have hq := List.mem_singleton.mp hq
    subst hq
    refine vx_catch B.1.2.2.2.1 ((tableOf hh_runs).take 1) ⟨0, 4, 8, 126⟩ ((tableOf hh_runs).drop 2) (htab.trans (by decide +kernel)) (lPass B.1.2.2.2.2 B.2.2.2.2.2.1.2.1 (E := 5) (by decide) (by decide +kernel)) (by decide) (by decide) (B.1.2.2.2.2 _ qcx_L_126) (B.2.2.2.2.2.1.1.use qca_5) hc1 hc2 hc3 ?_
    refine lv_astore_n (lv' := [(1, .ref q9), (0, .ref (h0 0))]) hx hb dL_runs_8 rfl hl (by decide) rfl (fun ls hl => ?_)
    refine lv_bipush (v := (-2)) hx hb dL_runs_9 (by decide) ?_
    exact lIret (v := (-2)) (t9, r9) (congrArg some (congrArg Value.int (show iI (exR 5) = (-2 : Int32) by decide +kernel))) hV9 hx hb B.2.1 B.2.2.1 hP B.2.2.2.1 hD hS dL_runs_11
  · have hP := ocQ hP
    have hD := ocQD hD
    subst hk
    exact lIret (t9, r9) rfl hV9 hx hb B.2.1 B.2.2.1 hP B.2.2.2.1 hD hS dL_runs_4
