/-! ===== act, a case each ===== -/
set_option maxRecDepth 100000 in
set_option maxHeartbeats 4000000 in
theorem l_act0 (l : Launch) (hl9 : l.stackTraces = false) (D : va_G) (cA : Nat → ClassId) (ad an tt : Nat → Nat) (hr : Nat → Nat → Nat) (h0 : Nat → Nat) (sz n : Nat) (x1 : Int32) (x2 : Int32) (t : ThlS) (r : Nat → BooS) (W : SO) (hV : V n t r W) (hn : n + 1 ≤ 512) : lM l yL_act (.codeWith yL_act cL_act 5 (some .int) hh_act) ({ frames := 8, cells := 1, slots := 6, locals := 144 }) D cA ad an tt (fun _ => True) (TR cA ad hr h0 t r) sz [.ref (h0 0), .int 0, .int x1, .int x2] (fun _ => some (.int (iI (resO (lO W (gOpen (oS W) (chI x1).toInt)))))) (fun u : ThlS × (Nat → BooS) => V (n + 1) u.1 u.2 (lO W (gOpen (oS W) (chI x1).toInt)).2.2) (fun u => TR cA ad hr h0 u.1 u.2) 1 6 := by
  obtain ⟨t9, r9, h9, hV9⟩ := V_open hV hn (chI x1)
  have hq := q_open W (chI x1).toInt
  generalize lO W (gOpen (oS W) (chI x1).toInt) = o at h9 hV9 hq ⊢
  obtain ⟨k, v, W9⟩ := o
  dsimp only at h9 hV9 hq ⊢
  generalize erm : ({ frames := 8, cells := 1, slots := 6, locals := 144 } : Room) = rm
  refine lMetW (by decide) rfl (Nat.le_of_ble_eq_true rfl) ?_
  intro p e s m below meth c A eA B hP hD hS hsz _ htab ls hl
  have hl : lv_has ls 5 [(0, .ref (h0 0)), (1, .int 0), (2, .int x1), (3, .int x2)] := hl
  have hx := B.1.1
  have hb := B.1.2.1
  have hP := ocP hP
  have hD := ocPD hD
  refine lv_iload_n hx hb dL_act_0 rfl (lv_at hl 1 rfl) ?_
  refine lv_tableIn (off := 91) (tgt := 92) hx hb dL_act_1 (by decide) (by decide) (by decide) (by decide) ?_
  refine lv_aload_n hx hb dL_act_92 rfl (lv_at hl 0 rfl) ?_
  refine lv_iload_n hx hb dL_act_93 rfl (lv_at hl 2 rfl) ?_
  refine lv_i2c (v := chI x1) hx hb dL_act_94 rfl ?_
  refine ocRx (t9 := t9) (r9 := r9) (mc := 1) (ms := 6) B rfl hP hD hS (kX12_open l hl9 D cA ad hr h0 _ 2000 (chI x1) t r (k, iI v, t9, r9) h9) qco_X12_open qml_L_69 qin_X12_open qse_X12_open qini_X12 (show xCd yX12_open 1 = true by decide +kernel) (by rw [← erm]; rfl) hl.1 rfl (lv_room (Nat.le_of_ble_eq_true rfl)) dL_act_95 ⟨by rw [← erm]; exact Nat.le_of_ble_eq_true rfl, by rw [← erm]; exact Nat.le_of_ble_eq_true rfl⟩ (fun hne q9 ce H locs hP hD hS hc1 hc2 hc3 => ?_) (fun hk H locs hP hD hS => ?_)
  · have hP := ocQ hP
    have hD := ocQD hD
    rcases hq with hq | hq
    · exact absurd hq hne
    rcases List.mem_cons.mp hq with hq | hq
    · subst hq
      refine vx_catch B.1.2.2.2.1 ((tableOf hh_act).take 18) ⟨0, 98, 224, 60⟩ ((tableOf hh_act).drop 19) (htab.trans (by decide +kernel)) (lPass B.1.2.2.2.2 B.2.2.2.2.2.1.2.1 (E := 3) (by decide) (by decide +kernel)) (by decide) (by decide) (B.1.2.2.2.2 _ qcx_L_60) (B.2.2.2.2.2.1.1.use qca_3) hc1 hc2 hc3 ?_
      refine lv_astore (lv' := [(4, .ref q9), (0, .ref (h0 0)), (1, .int 0), (2, .int x1), (3, .int x2)]) hx hb dL_act_224 hl (by decide) rfl (fun ls hl => ?_)
      refine lv_ldc hx hb B.1.2.2.2.1 (B.1.2.2.2.2 _ qci_L_62) dL_act_226 ?_
      exact lIret (v := (-900002)) (t9, r9) (congrArg some (congrArg Value.int (show iI (exC 3) = (-900002 : Int32) by decide +kernel))) hV9 hx hb B.2.1 B.2.2.1 hP B.2.2.2.1 hD hS dL_act_228
    have hq := List.mem_singleton.mp hq
    subst hq
    refine vx_catch B.1.2.2.2.1 ((tableOf hh_act).take 36) ⟨0, 98, 229, 66⟩ ((tableOf hh_act).drop 37) (htab.trans (by decide +kernel)) (lPass B.1.2.2.2.2 B.2.2.2.2.2.1.2.1 (E := 4) (by decide) (by decide +kernel)) (by decide) (by decide) (B.1.2.2.2.2 _ qcx_L_66) (B.2.2.2.2.2.1.1.use qca_4) hc1 hc2 hc3 ?_
    refine lv_astore (lv' := [(4, .ref q9), (0, .ref (h0 0)), (1, .int 0), (2, .int x1), (3, .int x2)]) hx hb dL_act_229 hl (by decide) rfl (fun ls hl => ?_)
    refine lv_ldc hx hb B.1.2.2.2.1 (B.1.2.2.2.2 _ qci_L_68) dL_act_231 ?_
    exact lIret (v := (-900003)) (t9, r9) (congrArg some (congrArg Value.int (show iI (exC 4) = (-900003 : Int32) by decide +kernel))) hV9 hx hb B.2.1 B.2.2.1 hP B.2.2.2.1 hD hS dL_act_233
  · have hP := ocQ hP
    have hD := ocQD hD
    subst hk
    exact lIret (t9, r9) rfl hV9 hx hb B.2.1 B.2.2.1 hP B.2.2.2.1 hD hS dL_act_98
set_option maxRecDepth 100000 in
set_option maxHeartbeats 4000000 in
theorem l_act1 (l : Launch) (hl9 : l.stackTraces = false) (D : va_G) (cA : Nat → ClassId) (ad an tt : Nat → Nat) (hr : Nat → Nat → Nat) (h0 : Nat → Nat) (sz n : Nat) (x1 : Int32) (x2 : Int32) (t : ThlS) (r : Nat → BooS) (W : SO) (hV : V n t r W) (hn : n + 1 ≤ 512) : lM l yL_act (.codeWith yL_act cL_act 5 (some .int) hh_act) ({ frames := 8, cells := 1, slots := 6, locals := 144 }) D cA ad an tt (fun _ => True) (TR cA ad hr h0 t r) sz [.ref (h0 0), .int 1, .int x1, .int x2] (fun _ => some (.int (iI (resO (lO W (gOpenB (oS W) x1.toInt)))))) (fun u : ThlS × (Nat → BooS) => V (n + 1) u.1 u.2 (lO W (gOpenB (oS W) x1.toInt)).2.2) (fun u => TR cA ad hr h0 u.1 u.2) 1 6 := by
  obtain ⟨t9, r9, h9, hV9⟩ := V_openBelow hV hn x1
  have hq := q_openBelow W x1.toInt
  generalize lO W (gOpenB (oS W) x1.toInt) = o at h9 hV9 hq ⊢
  obtain ⟨k, v, W9⟩ := o
  dsimp only at h9 hV9 hq ⊢
  generalize erm : ({ frames := 8, cells := 1, slots := 6, locals := 144 } : Room) = rm
  refine lMetW (by decide) rfl (Nat.le_of_ble_eq_true rfl) ?_
  intro p e s m below meth c A eA B hP hD hS hsz _ htab ls hl
  have hl : lv_has ls 5 [(0, .ref (h0 0)), (1, .int 1), (2, .int x1), (3, .int x2)] := hl
  have hx := B.1.1
  have hb := B.1.2.1
  have hP := ocP hP
  have hD := ocPD hD
  refine lv_iload_n hx hb dL_act_0 rfl (lv_at hl 1 rfl) ?_
  refine lv_tableIn (off := 98) (tgt := 99) hx hb dL_act_1 (by decide) (by decide) (by decide) (by decide) ?_
  refine lv_aload_n hx hb dL_act_99 rfl (lv_at hl 0 rfl) ?_
  refine lv_iload_n hx hb dL_act_100 rfl (lv_at hl 2 rfl) ?_
  refine ocRx (t9 := t9) (r9 := r9) (mc := 1) (ms := 6) B rfl hP hD hS (kX12_openBelow l hl9 D cA ad hr h0 _ 2000 x1 t r (k, iI v, t9, r9) h9) qco_X12_openBelow qml_L_72 qin_X12_openBelow qse_X12_openBelow qini_X12 (show xCd yX12_openBelow 1 = true by decide +kernel) (by rw [← erm]; rfl) hl.1 rfl (lv_room (Nat.le_of_ble_eq_true rfl)) dL_act_101 ⟨by rw [← erm]; exact Nat.le_of_ble_eq_true rfl, by rw [← erm]; exact Nat.le_of_ble_eq_true rfl⟩ (fun hne q9 ce H locs hP hD hS hc1 hc2 hc3 => ?_) (fun hk H locs hP hD hS => ?_)
  · have hP := ocQ hP
    have hD := ocQD hD
    rcases hq with hq | hq
    · exact absurd hq hne
    rcases List.mem_cons.mp hq with hq | hq
    · subst hq
      refine vx_catch B.1.2.2.2.1 ((tableOf hh_act).take 1) ⟨99, 104, 219, 57⟩ ((tableOf hh_act).drop 2) (htab.trans (by decide +kernel)) (lPass B.1.2.2.2.2 B.2.2.2.2.2.1.2.1 (E := 1) (by decide) (by decide +kernel)) (by decide) (by decide) (B.1.2.2.2.2 _ qcx_L_57) (B.2.2.2.2.2.1.1.use qca_1) hc1 hc2 hc3 ?_
      refine lv_astore (lv' := [(4, .ref q9), (0, .ref (h0 0)), (1, .int 1), (2, .int x1), (3, .int x2)]) hx hb dL_act_219 hl (by decide) rfl (fun ls hl => ?_)
      refine lv_ldc hx hb B.1.2.2.2.1 (B.1.2.2.2.2 _ qci_L_59) dL_act_221 ?_
      exact lIret (v := (-900001)) (t9, r9) (congrArg some (congrArg Value.int (show iI (exC 1) = (-900001 : Int32) by decide +kernel))) hV9 hx hb B.2.1 B.2.2.1 hP B.2.2.2.1 hD hS dL_act_223
    have hq := List.mem_singleton.mp hq
    subst hq
    refine vx_catch B.1.2.2.2.1 ((tableOf hh_act).take 37) ⟨99, 104, 229, 66⟩ ((tableOf hh_act).drop 38) (htab.trans (by decide +kernel)) (lPass B.1.2.2.2.2 B.2.2.2.2.2.1.2.1 (E := 4) (by decide) (by decide +kernel)) (by decide) (by decide) (B.1.2.2.2.2 _ qcx_L_66) (B.2.2.2.2.2.1.1.use qca_4) hc1 hc2 hc3 ?_
    refine lv_astore (lv' := [(4, .ref q9), (0, .ref (h0 0)), (1, .int 1), (2, .int x1), (3, .int x2)]) hx hb dL_act_229 hl (by decide) rfl (fun ls hl => ?_)
    refine lv_ldc hx hb B.1.2.2.2.1 (B.1.2.2.2.2 _ qci_L_68) dL_act_231 ?_
    exact lIret (v := (-900003)) (t9, r9) (congrArg some (congrArg Value.int (show iI (exC 4) = (-900003 : Int32) by decide +kernel))) hV9 hx hb B.2.1 B.2.2.1 hP B.2.2.2.1 hD hS dL_act_233
  · have hP := ocQ hP
    have hD := ocQD hD
    subst hk
    exact lIret (t9, r9) rfl hV9 hx hb B.2.1 B.2.2.1 hP B.2.2.2.1 hD hS dL_act_104
set_option maxRecDepth 100000 in
set_option maxHeartbeats 4000000 in
theorem l_act3 (l : Launch) (hl9 : l.stackTraces = false) (D : va_G) (cA : Nat → ClassId) (ad an tt : Nat → Nat) (hr : Nat → Nat → Nat) (h0 : Nat → Nat) (sz n : Nat) (x1 : Int32) (x2 : Int32) (t : ThlS) (r : Nat → BooS) (W : SO) (hV : V n t r W) (hn : n + 1 ≤ 512) : lM l yL_act (.codeWith yL_act cL_act 5 (some .int) hh_act) ({ frames := 8, cells := 1, slots := 6, locals := 144 }) D cA ad an tt (fun _ => True) (TR cA ad hr h0 t r) sz [.ref (h0 0), .int 3, .int x1, .int x2] (fun _ => some (.int (iI (resO (lO W (gRev (oS W) x1.toInt)))))) (fun u : ThlS × (Nat → BooS) => V (n + 1) u.1 u.2 (lO W (gRev (oS W) x1.toInt)).2.2) (fun u => TR cA ad hr h0 u.1 u.2) 1 6 := by
  obtain ⟨t9, r9, h9, hV9⟩ := V_reverse hV hn x1
  have hq := q_reverse W x1.toInt
  generalize lO W (gRev (oS W) x1.toInt) = o at h9 hV9 hq ⊢
  obtain ⟨k, v, W9⟩ := o
  dsimp only at h9 hV9 hq ⊢
  generalize erm : ({ frames := 8, cells := 1, slots := 6, locals := 144 } : Room) = rm
  refine lMetW (by decide) rfl (Nat.le_of_ble_eq_true rfl) ?_
  intro p e s m below meth c A eA B hP hD hS hsz _ htab ls hl
  have hl : lv_has ls 5 [(0, .ref (h0 0)), (1, .int 3), (2, .int x1), (3, .int x2)] := hl
  have hx := B.1.1
  have hb := B.1.2.1
  have hP := ocP hP
  have hD := ocPD hD
  refine lv_iload_n hx hb dL_act_0 rfl (lv_at hl 1 rfl) ?_
  refine lv_tableIn (off := 104) (tgt := 105) hx hb dL_act_1 (by decide) (by decide) (by decide) (by decide) ?_
  refine lv_aload_n hx hb dL_act_105 rfl (lv_at hl 0 rfl) ?_
  refine lv_iload_n hx hb dL_act_106 rfl (lv_at hl 2 rfl) ?_
  refine ocRx (t9 := t9) (r9 := r9) (mc := 1) (ms := 6) B rfl hP hD hS (kX12_reverse l hl9 D cA ad hr h0 _ 2000 x1 t r (k, iI v, t9, r9) h9) qco_X12_reverse qml_L_75 qin_X12_reverse qse_X12_reverse qini_X12 (show xCd yX12_reverse 1 = true by decide +kernel) (by rw [← erm]; rfl) hl.1 rfl (lv_room (Nat.le_of_ble_eq_true rfl)) dL_act_107 ⟨by rw [← erm]; exact Nat.le_of_ble_eq_true rfl, by rw [← erm]; exact Nat.le_of_ble_eq_true rfl⟩ (fun hne q9 ce H locs hP hD hS hc1 hc2 hc3 => ?_) (fun hk H locs hP hD hS => ?_)
  · have hP := ocQ hP
    have hD := ocQD hD
    rcases hq with hq | hq
    · exact absurd hq hne
    rcases List.mem_cons.mp hq with hq | hq
    · subst hq
      refine vx_catch B.1.2.2.2.1 ((tableOf hh_act).take 74) ⟨105, 110, 239, 129⟩ ((tableOf hh_act).drop 75) (htab.trans (by decide +kernel)) (lPass B.1.2.2.2.2 B.2.2.2.2.2.1.2.1 (E := 2) (by decide) (by decide +kernel)) (by decide) (by decide) (B.1.2.2.2.2 _ qcx_L_129) (B.2.2.2.2.2.1.1.use qca_2) hc1 hc2 hc3 ?_
      refine lv_astore (lv' := [(4, .ref q9), (0, .ref (h0 0)), (1, .int 3), (2, .int x1), (3, .int x2)]) hx hb dL_act_239 hl (by decide) rfl (fun ls hl => ?_)
      refine lv_ldc hx hb B.1.2.2.2.1 (B.1.2.2.2.2 _ qci_L_131) dL_act_241 ?_
      exact lIret (v := (-900005)) (t9, r9) (congrArg some (congrArg Value.int (show iI (exC 2) = (-900005 : Int32) by decide +kernel))) hV9 hx hb B.2.1 B.2.2.1 hP B.2.2.2.1 hD hS dL_act_243
    have hq := List.mem_singleton.mp hq
    subst hq
    refine vx_catch B.1.2.2.2.1 ((tableOf hh_act).take 38) ⟨105, 110, 229, 66⟩ ((tableOf hh_act).drop 39) (htab.trans (by decide +kernel)) (lPass B.1.2.2.2.2 B.2.2.2.2.2.1.2.1 (E := 4) (by decide) (by decide +kernel)) (by decide) (by decide) (B.1.2.2.2.2 _ qcx_L_66) (B.2.2.2.2.2.1.1.use qca_4) hc1 hc2 hc3 ?_
    refine lv_astore (lv' := [(4, .ref q9), (0, .ref (h0 0)), (1, .int 3), (2, .int x1), (3, .int x2)]) hx hb dL_act_229 hl (by decide) rfl (fun ls hl => ?_)
    refine lv_ldc hx hb B.1.2.2.2.1 (B.1.2.2.2.2 _ qci_L_68) dL_act_231 ?_
    exact lIret (v := (-900003)) (t9, r9) (congrArg some (congrArg Value.int (show iI (exC 4) = (-900003 : Int32) by decide +kernel))) hV9 hx hb B.2.1 B.2.2.1 hP B.2.2.2.1 hD hS dL_act_233
  · have hP := ocQ hP
    have hD := ocQD hD
    subst hk
    exact lIret (t9, r9) rfl hV9 hx hb B.2.1 B.2.2.1 hP B.2.2.2.1 hD hS dL_act_110
set_option maxRecDepth 100000 in
set_option maxHeartbeats 4000000 in
theorem l_act5 (l : Launch) (hl9 : l.stackTraces = false) (D : va_G) (cA : Nat → ClassId) (ad an tt : Nat → Nat) (hr : Nat → Nat → Nat) (h0 : Nat → Nat) (sz n : Nat) (x1 : Int32) (x2 : Int32) (t : ThlS) (r : Nat → BooS) (W : SO) (hV : V n t r W) (hn : n + 1 ≤ 512) : lM l yL_act (.codeWith yL_act cL_act 5 (some .int) hh_act) ({ frames := 8, cells := 1, slots := 6, locals := 144 }) D cA ad an tt (fun _ => True) (TR cA ad hr h0 t r) sz [.ref (h0 0), .int 5, .int x1, .int x2] (fun _ => some (.int (iI (resO (lO W (gCancel (oS W) x1.toInt)))))) (fun u : ThlS × (Nat → BooS) => V (n + 1) u.1 u.2 (lO W (gCancel (oS W) x1.toInt)).2.2) (fun u => TR cA ad hr h0 u.1 u.2) 1 6 := by
  obtain ⟨t9, r9, h9, hV9⟩ := V_cancelPrompt hV hn x1
  have hq := q_cancelPrompt W x1.toInt
  generalize lO W (gCancel (oS W) x1.toInt) = o at h9 hV9 hq ⊢
  obtain ⟨k, v, W9⟩ := o
  dsimp only at h9 hV9 hq ⊢
  generalize erm : ({ frames := 8, cells := 1, slots := 6, locals := 144 } : Room) = rm
  refine lMetW (by decide) rfl (Nat.le_of_ble_eq_true rfl) ?_
  intro p e s m below meth c A eA B hP hD hS hsz _ htab ls hl
  have hl : lv_has ls 5 [(0, .ref (h0 0)), (1, .int 5), (2, .int x1), (3, .int x2)] := hl
  have hx := B.1.1
  have hb := B.1.2.1
  have hP := ocP hP
  have hD := ocPD hD
  refine lv_iload_n hx hb dL_act_0 rfl (lv_at hl 1 rfl) ?_
  refine lv_tableIn (off := 110) (tgt := 111) hx hb dL_act_1 (by decide) (by decide) (by decide) (by decide) ?_
  refine lv_aload_n hx hb dL_act_111 rfl (lv_at hl 0 rfl) ?_
  refine lv_iload_n hx hb dL_act_112 rfl (lv_at hl 2 rfl) ?_
  refine ocRx (t9 := t9) (r9 := r9) (mc := 1) (ms := 6) B rfl hP hD hS (kX12_cancelPrompt l hl9 D cA ad hr h0 _ 2000 x1 t r (k, iI v, t9, r9) h9) qco_X12_cancelPrompt qml_L_78 qin_X12_cancelPrompt qse_X12_cancelPrompt qini_X12 (show xCd yX12_cancelPrompt 1 = true by decide +kernel) (by rw [← erm]; rfl) hl.1 rfl (lv_room (Nat.le_of_ble_eq_true rfl)) dL_act_113 ⟨by rw [← erm]; exact Nat.le_of_ble_eq_true rfl, by rw [← erm]; exact Nat.le_of_ble_eq_true rfl⟩ (fun hne q9 ce H locs hP hD hS hc1 hc2 hc3 => ?_) (fun hk H locs hP hD hS => ?_)
  · have hP := ocQ hP
    have hD := ocQD hD
    rcases hq with hq | hq
    · exact absurd hq hne
    have hq := List.mem_singleton.mp hq
    subst hq
    refine vx_catch B.1.2.2.2.1 ((tableOf hh_act).take 3) ⟨111, 116, 219, 57⟩ ((tableOf hh_act).drop 4) (htab.trans (by decide +kernel)) (lPass B.1.2.2.2.2 B.2.2.2.2.2.1.2.1 (E := 1) (by decide) (by decide +kernel)) (by decide) (by decide) (B.1.2.2.2.2 _ qcx_L_57) (B.2.2.2.2.2.1.1.use qca_1) hc1 hc2 hc3 ?_
    refine lv_astore (lv' := [(4, .ref q9), (0, .ref (h0 0)), (1, .int 5), (2, .int x1), (3, .int x2)]) hx hb dL_act_219 hl (by decide) rfl (fun ls hl => ?_)
    refine lv_ldc hx hb B.1.2.2.2.1 (B.1.2.2.2.2 _ qci_L_59) dL_act_221 ?_
    exact lIret (v := (-900001)) (t9, r9) (congrArg some (congrArg Value.int (show iI (exC 1) = (-900001 : Int32) by decide +kernel))) hV9 hx hb B.2.1 B.2.2.1 hP B.2.2.2.1 hD hS dL_act_223
  · have hP := ocQ hP
    have hD := ocQD hD
    subst hk
    exact lIret (t9, r9) rfl hV9 hx hb B.2.1 B.2.2.1 hP B.2.2.2.1 hD hS dL_act_116
set_option maxRecDepth 100000 in
set_option maxHeartbeats 4000000 in
theorem l_act6 (l : Launch) (hl9 : l.stackTraces = false) (D : va_G) (cA : Nat → ClassId) (ad an tt : Nat → Nat) (hr : Nat → Nat → Nat) (h0 : Nat → Nat) (sz n : Nat) (x1 : Int32) (x2 : Int32) (t : ThlS) (r : Nat → BooS) (W : SO) (hV : V n t r W) (hn : n + 1 ≤ 512) : lM l yL_act (.codeWith yL_act cL_act 5 (some .int) hh_act) ({ frames := 8, cells := 1, slots := 6, locals := 144 }) D cA ad an tt (fun _ => True) (TR cA ad hr h0 t r) sz [.ref (h0 0), .int 6, .int x1, .int x2] (fun _ => some (.int (iI (resO (lO W (gPass (oS W) x1.toInt)))))) (fun u : ThlS × (Nat → BooS) => V (n + 1) u.1 u.2 (lO W (gPass (oS W) x1.toInt)).2.2) (fun u => TR cA ad hr h0 u.1 u.2) 1 6 := by
  obtain ⟨t9, r9, h9, hV9⟩ := V_passHours hV hn x1
  have hq := q_passHours W x1.toInt
  generalize lO W (gPass (oS W) x1.toInt) = o at h9 hV9 hq ⊢
  obtain ⟨k, v, W9⟩ := o
  dsimp only at h9 hV9 hq ⊢
  generalize erm : ({ frames := 8, cells := 1, slots := 6, locals := 144 } : Room) = rm
  refine lMetW (by decide) rfl (Nat.le_of_ble_eq_true rfl) ?_
  intro p e s m below meth c A eA B hP hD hS hsz _ htab ls hl
  have hl : lv_has ls 5 [(0, .ref (h0 0)), (1, .int 6), (2, .int x1), (3, .int x2)] := hl
  have hx := B.1.1
  have hb := B.1.2.1
  have hP := ocP hP
  have hD := ocPD hD
  refine lv_iload_n hx hb dL_act_0 rfl (lv_at hl 1 rfl) ?_
  refine lv_tableIn (off := 116) (tgt := 117) hx hb dL_act_1 (by decide) (by decide) (by decide) (by decide) ?_
  refine lv_aload_n hx hb dL_act_117 rfl (lv_at hl 0 rfl) ?_
  refine lv_iload_n hx hb dL_act_118 rfl (lv_at hl 2 rfl) ?_
  refine ocRx (t9 := t9) (r9 := r9) (mc := 1) (ms := 6) B rfl hP hD hS (kX12_passHours l hl9 D cA ad hr h0 _ 2000 x1 t r (k, iI v, t9, r9) h9) qco_X12_passHours qml_L_81 qin_X12_passHours qse_X12_passHours qini_X12 (show xCd yX12_passHours 1 = true by decide +kernel) (by rw [← erm]; rfl) hl.1 rfl (lv_room (Nat.le_of_ble_eq_true rfl)) dL_act_119 ⟨by rw [← erm]; exact Nat.le_of_ble_eq_true rfl, by rw [← erm]; exact Nat.le_of_ble_eq_true rfl⟩ (fun hne q9 ce H locs hP hD hS hc1 hc2 hc3 => ?_) (fun hk H locs hP hD hS => ?_)
  · have hP := ocQ hP
    have hD := ocQD hD
    rcases hq with hq | hq
    · exact absurd hq hne
    have hq := List.mem_singleton.mp hq
    subst hq
    refine vx_catch B.1.2.2.2.1 ((tableOf hh_act).take 22) ⟨117, 122, 224, 60⟩ ((tableOf hh_act).drop 23) (htab.trans (by decide +kernel)) (lPass B.1.2.2.2.2 B.2.2.2.2.2.1.2.1 (E := 3) (by decide) (by decide +kernel)) (by decide) (by decide) (B.1.2.2.2.2 _ qcx_L_60) (B.2.2.2.2.2.1.1.use qca_3) hc1 hc2 hc3 ?_
    refine lv_astore (lv' := [(4, .ref q9), (0, .ref (h0 0)), (1, .int 6), (2, .int x1), (3, .int x2)]) hx hb dL_act_224 hl (by decide) rfl (fun ls hl => ?_)
    refine lv_ldc hx hb B.1.2.2.2.1 (B.1.2.2.2.2 _ qci_L_62) dL_act_226 ?_
    exact lIret (v := (-900002)) (t9, r9) (congrArg some (congrArg Value.int (show iI (exC 3) = (-900002 : Int32) by decide +kernel))) hV9 hx hb B.2.1 B.2.2.1 hP B.2.2.2.1 hD hS dL_act_228
  · have hP := ocQ hP
    have hD := ocQD hD
    subst hk
    exact lIret (t9, r9) rfl hV9 hx hb B.2.1 B.2.2.1 hP B.2.2.2.1 hD hS dL_act_122
set_option maxRecDepth 100000 in
set_option maxHeartbeats 4000000 in
theorem l_act7 (l : Launch) (hl9 : l.stackTraces = false) (D : va_G) (cA : Nat → ClassId) (ad an tt : Nat → Nat) (hr : Nat → Nat → Nat) (h0 : Nat → Nat) (sz n : Nat) (x1 : Int32) (x2 : Int32) (t : ThlS) (r : Nat → BooS) (W : SO) (hV : V n t r W) (hn : n + 1 ≤ 512) : lM l yL_act (.codeWith yL_act cL_act 5 (some .int) hh_act) ({ frames := 8, cells := 1, slots := 6, locals := 145 }) D cA ad an tt (fun _ => True) (TR cA ad hr h0 t r) sz [.ref (h0 0), .int 7, .int x1, .int x2] (fun _ => some (.int (iI (resO (lO W (gBuy (oS W) x1.toInt x2.toInt)))))) (fun u : ThlS × (Nat → BooS) => V (n + 1) u.1 u.2 (lO W (gBuy (oS W) x1.toInt x2.toInt)).2.2) (fun u => TR cA ad hr h0 u.1 u.2) 1 6 := by
  obtain ⟨t9, r9, h9, hV9⟩ := V_buy hV hn x1 x2
  have hq := q_buy W x1.toInt x2.toInt
  generalize lO W (gBuy (oS W) x1.toInt x2.toInt) = o at h9 hV9 hq ⊢
  obtain ⟨k, v, W9⟩ := o
  dsimp only at h9 hV9 hq ⊢
  generalize erm : ({ frames := 8, cells := 1, slots := 6, locals := 145 } : Room) = rm
  refine lMetW (by decide) rfl (Nat.le_of_ble_eq_true rfl) ?_
  intro p e s m below meth c A eA B hP hD hS hsz _ htab ls hl
  have hl : lv_has ls 5 [(0, .ref (h0 0)), (1, .int 7), (2, .int x1), (3, .int x2)] := hl
  have hx := B.1.1
  have hb := B.1.2.1
  have hP := ocP hP
  have hD := ocPD hD
  refine lv_iload_n hx hb dL_act_0 rfl (lv_at hl 1 rfl) ?_
  refine lv_tableIn (off := 122) (tgt := 123) hx hb dL_act_1 (by decide) (by decide) (by decide) (by decide) ?_
  refine lv_aload_n hx hb dL_act_123 rfl (lv_at hl 0 rfl) ?_
  refine lv_iload_n hx hb dL_act_124 rfl (lv_at hl 2 rfl) ?_
  refine lv_iload_n hx hb dL_act_125 rfl (lv_at hl 3 rfl) ?_
  refine ocRx (t9 := t9) (r9 := r9) (mc := 1) (ms := 6) B rfl hP hD hS (kX12_buy l hl9 D cA ad hr h0 _ 2000 x1 x2 t r (k, iI v, t9, r9) h9) qco_X12_buy qml_L_84 qin_X12_buy qse_X12_buy qini_X12 (show xCd yX12_buy 2 = true by decide +kernel) (by rw [← erm]; rfl) hl.1 rfl (lv_room (Nat.le_of_ble_eq_true rfl)) dL_act_126 ⟨by rw [← erm]; exact Nat.le_of_ble_eq_true rfl, by rw [← erm]; exact Nat.le_of_ble_eq_true rfl⟩ (fun hne q9 ce H locs hP hD hS hc1 hc2 hc3 => ?_) (fun hk H locs hP hD hS => ?_)
  · have hP := ocQ hP
    have hD := ocQD hD
    rcases hq with hq | hq
    · exact absurd hq hne
    rcases List.mem_cons.mp hq with hq | hq
    · subst hq
      refine vx_catch B.1.2.2.2.1 ((tableOf hh_act).take 23) ⟨123, 129, 224, 60⟩ ((tableOf hh_act).drop 24) (htab.trans (by decide +kernel)) (lPass B.1.2.2.2.2 B.2.2.2.2.2.1.2.1 (E := 3) (by decide) (by decide +kernel)) (by decide) (by decide) (B.1.2.2.2.2 _ qcx_L_60) (B.2.2.2.2.2.1.1.use qca_3) hc1 hc2 hc3 ?_
      refine lv_astore (lv' := [(4, .ref q9), (0, .ref (h0 0)), (1, .int 7), (2, .int x1), (3, .int x2)]) hx hb dL_act_224 hl (by decide) rfl (fun ls hl => ?_)
      refine lv_ldc hx hb B.1.2.2.2.1 (B.1.2.2.2.2 _ qci_L_62) dL_act_226 ?_
      exact lIret (v := (-900002)) (t9, r9) (congrArg some (congrArg Value.int (show iI (exC 3) = (-900002 : Int32) by decide +kernel))) hV9 hx hb B.2.1 B.2.2.1 hP B.2.2.2.1 hD hS dL_act_228
    rcases List.mem_cons.mp hq with hq | hq
    · subst hq
      refine vx_catch B.1.2.2.2.1 ((tableOf hh_act).take 41) ⟨123, 129, 229, 66⟩ ((tableOf hh_act).drop 42) (htab.trans (by decide +kernel)) (lPass B.1.2.2.2.2 B.2.2.2.2.2.1.2.1 (E := 4) (by decide) (by decide +kernel)) (by decide) (by decide) (B.1.2.2.2.2 _ qcx_L_66) (B.2.2.2.2.2.1.1.use qca_4) hc1 hc2 hc3 ?_
      refine lv_astore (lv' := [(4, .ref q9), (0, .ref (h0 0)), (1, .int 7), (2, .int x1), (3, .int x2)]) hx hb dL_act_229 hl (by decide) rfl (fun ls hl => ?_)
      refine lv_ldc hx hb B.1.2.2.2.1 (B.1.2.2.2.2 _ qci_L_68) dL_act_231 ?_
      exact lIret (v := (-900003)) (t9, r9) (congrArg some (congrArg Value.int (show iI (exC 4) = (-900003 : Int32) by decide +kernel))) hV9 hx hb B.2.1 B.2.2.1 hP B.2.2.2.1 hD hS dL_act_233
    have hq := List.mem_singleton.mp hq
    subst hq
    refine vx_catch B.1.2.2.2.1 ((tableOf hh_act).take 59) ⟨123, 129, 234, 126⟩ ((tableOf hh_act).drop 60) (htab.trans (by decide +kernel)) (lPass B.1.2.2.2.2 B.2.2.2.2.2.1.2.1 (E := 5) (by decide) (by decide +kernel)) (by decide) (by decide) (B.1.2.2.2.2 _ qcx_L_126) (B.2.2.2.2.2.1.1.use qca_5) hc1 hc2 hc3 ?_
    refine lv_astore (lv' := [(4, .ref q9), (0, .ref (h0 0)), (1, .int 7), (2, .int x1), (3, .int x2)]) hx hb dL_act_234 hl (by decide) rfl (fun ls hl => ?_)
    refine lv_ldc hx hb B.1.2.2.2.1 (B.1.2.2.2.2 _ qci_L_128) dL_act_236 ?_
    exact lIret (v := (-900004)) (t9, r9) (congrArg some (congrArg Value.int (show iI (exC 5) = (-900004 : Int32) by decide +kernel))) hV9 hx hb B.2.1 B.2.2.1 hP B.2.2.2.1 hD hS dL_act_238
  · have hP := ocQ hP
    have hD := ocQD hD
    subst hk
    exact lIret (t9, r9) rfl hV9 hx hb B.2.1 B.2.2.1 hP B.2.2.2.1 hD hS dL_act_129
set_option maxRecDepth 100000 in
set_option maxHeartbeats 4000000 in
theorem l_act8 (l : Launch) (hl9 : l.stackTraces = false) (D : va_G) (cA : Nat → ClassId) (ad an tt : Nat → Nat) (hr : Nat → Nat → Nat) (h0 : Nat → Nat) (sz n : Nat) (x1 : Int32) (x2 : Int32) (t : ThlS) (r : Nat → BooS) (W : SO) (hV : V n t r W) (hn : n + 1 ≤ 512) : lM l yL_act (.codeWith yL_act cL_act 5 (some .int) hh_act) ({ frames := 8, cells := 1, slots := 6, locals := 145 }) D cA ad an tt (fun _ => True) (TR cA ad hr h0 t r) sz [.ref (h0 0), .int 8, .int x1, .int x2] (fun _ => some (.int (iI (resO (lO W (gSell (oS W) x1.toInt x2.toInt)))))) (fun u : ThlS × (Nat → BooS) => V (n + 1) u.1 u.2 (lO W (gSell (oS W) x1.toInt x2.toInt)).2.2) (fun u => TR cA ad hr h0 u.1 u.2) 1 6 := by
  obtain ⟨t9, r9, h9, hV9⟩ := V_sell hV hn x1 x2
  have hq := q_sell W x1.toInt x2.toInt
  generalize lO W (gSell (oS W) x1.toInt x2.toInt) = o at h9 hV9 hq ⊢
  obtain ⟨k, v, W9⟩ := o
  dsimp only at h9 hV9 hq ⊢
  generalize erm : ({ frames := 8, cells := 1, slots := 6, locals := 145 } : Room) = rm
  refine lMetW (by decide) rfl (Nat.le_of_ble_eq_true rfl) ?_
  intro p e s m below meth c A eA B hP hD hS hsz _ htab ls hl
  have hl : lv_has ls 5 [(0, .ref (h0 0)), (1, .int 8), (2, .int x1), (3, .int x2)] := hl
  have hx := B.1.1
  have hb := B.1.2.1
  have hP := ocP hP
  have hD := ocPD hD
  refine lv_iload_n hx hb dL_act_0 rfl (lv_at hl 1 rfl) ?_
  refine lv_tableIn (off := 129) (tgt := 130) hx hb dL_act_1 (by decide) (by decide) (by decide) (by decide) ?_
  refine lv_aload_n hx hb dL_act_130 rfl (lv_at hl 0 rfl) ?_
  refine lv_iload_n hx hb dL_act_131 rfl (lv_at hl 2 rfl) ?_
  refine lv_iload_n hx hb dL_act_132 rfl (lv_at hl 3 rfl) ?_
  refine ocRx (t9 := t9) (r9 := r9) (mc := 1) (ms := 6) B rfl hP hD hS (kX12_sell l hl9 D cA ad hr h0 _ 2000 x1 x2 t r (k, iI v, t9, r9) h9) qco_X12_sell qml_L_88 qin_X12_sell qse_X12_sell qini_X12 (show xCd yX12_sell 2 = true by decide +kernel) (by rw [← erm]; rfl) hl.1 rfl (lv_room (Nat.le_of_ble_eq_true rfl)) dL_act_133 ⟨by rw [← erm]; exact Nat.le_of_ble_eq_true rfl, by rw [← erm]; exact Nat.le_of_ble_eq_true rfl⟩ (fun hne q9 ce H locs hP hD hS hc1 hc2 hc3 => ?_) (fun hk H locs hP hD hS => ?_)
  · have hP := ocQ hP
    have hD := ocQD hD
    rcases hq with hq | hq
    · exact absurd hq hne
    rcases List.mem_cons.mp hq with hq | hq
    · subst hq
      refine vx_catch B.1.2.2.2.1 ((tableOf hh_act).take 24) ⟨130, 136, 224, 60⟩ ((tableOf hh_act).drop 25) (htab.trans (by decide +kernel)) (lPass B.1.2.2.2.2 B.2.2.2.2.2.1.2.1 (E := 3) (by decide) (by decide +kernel)) (by decide) (by decide) (B.1.2.2.2.2 _ qcx_L_60) (B.2.2.2.2.2.1.1.use qca_3) hc1 hc2 hc3 ?_
      refine lv_astore (lv' := [(4, .ref q9), (0, .ref (h0 0)), (1, .int 8), (2, .int x1), (3, .int x2)]) hx hb dL_act_224 hl (by decide) rfl (fun ls hl => ?_)
      refine lv_ldc hx hb B.1.2.2.2.1 (B.1.2.2.2.2 _ qci_L_62) dL_act_226 ?_
      exact lIret (v := (-900002)) (t9, r9) (congrArg some (congrArg Value.int (show iI (exC 3) = (-900002 : Int32) by decide +kernel))) hV9 hx hb B.2.1 B.2.2.1 hP B.2.2.2.1 hD hS dL_act_228
    have hq := List.mem_singleton.mp hq
    subst hq
    refine vx_catch B.1.2.2.2.1 ((tableOf hh_act).take 42) ⟨130, 136, 229, 66⟩ ((tableOf hh_act).drop 43) (htab.trans (by decide +kernel)) (lPass B.1.2.2.2.2 B.2.2.2.2.2.1.2.1 (E := 4) (by decide) (by decide +kernel)) (by decide) (by decide) (B.1.2.2.2.2 _ qcx_L_66) (B.2.2.2.2.2.1.1.use qca_4) hc1 hc2 hc3 ?_
    refine lv_astore (lv' := [(4, .ref q9), (0, .ref (h0 0)), (1, .int 8), (2, .int x1), (3, .int x2)]) hx hb dL_act_229 hl (by decide) rfl (fun ls hl => ?_)
    refine lv_ldc hx hb B.1.2.2.2.1 (B.1.2.2.2.2 _ qci_L_68) dL_act_231 ?_
    exact lIret (v := (-900003)) (t9, r9) (congrArg some (congrArg Value.int (show iI (exC 4) = (-900003 : Int32) by decide +kernel))) hV9 hx hb B.2.1 B.2.2.1 hP B.2.2.2.1 hD hS dL_act_233
  · have hP := ocQ hP
    have hD := ocQD hD
    subst hk
    exact lIret (t9, r9) rfl hV9 hx hb B.2.1 B.2.2.1 hP B.2.2.2.1 hD hS dL_act_136
set_option maxRecDepth 100000 in
set_option maxHeartbeats 4000000 in
theorem l_act9 (l : Launch) (hl9 : l.stackTraces = false) (D : va_G) (cA : Nat → ClassId) (ad an tt : Nat → Nat) (hr : Nat → Nat → Nat) (h0 : Nat → Nat) (sz n : Nat) (x1 : Int32) (x2 : Int32) (t : ThlS) (r : Nat → BooS) (W : SO) (hV : V n t r W) (hn : n + 1 ≤ 512) : lM l yL_act (.codeWith yL_act cL_act 5 (some .int) hh_act) ({ frames := 8, cells := 1, slots := 6, locals := 144 }) D cA ad an tt (fun _ => True) (TR cA ad hr h0 t r) sz [.ref (h0 0), .int 9, .int x1, .int x2] (fun _ => some (.int (iI (resO (lO W (gBill (oS W) x1.toInt)))))) (fun u : ThlS × (Nat → BooS) => V (n + 1) u.1 u.2 (lO W (gBill (oS W) x1.toInt)).2.2) (fun u => TR cA ad hr h0 u.1 u.2) 1 6 := by
  obtain ⟨t9, r9, h9, hV9⟩ := V_bill hV hn x1
  have hq := q_bill W x1.toInt
  generalize lO W (gBill (oS W) x1.toInt) = o at h9 hV9 hq ⊢
  obtain ⟨k, v, W9⟩ := o
  dsimp only at h9 hV9 hq ⊢
  generalize erm : ({ frames := 8, cells := 1, slots := 6, locals := 144 } : Room) = rm
  refine lMetW (by decide) rfl (Nat.le_of_ble_eq_true rfl) ?_
  intro p e s m below meth c A eA B hP hD hS hsz _ htab ls hl
  have hl : lv_has ls 5 [(0, .ref (h0 0)), (1, .int 9), (2, .int x1), (3, .int x2)] := hl
  have hx := B.1.1
  have hb := B.1.2.1
  have hP := ocP hP
  have hD := ocPD hD
  refine lv_iload_n hx hb dL_act_0 rfl (lv_at hl 1 rfl) ?_
  refine lv_tableIn (off := 136) (tgt := 137) hx hb dL_act_1 (by decide) (by decide) (by decide) (by decide) ?_
  refine lv_aload_n hx hb dL_act_137 rfl (lv_at hl 0 rfl) ?_
  refine lv_iload_n hx hb dL_act_138 rfl (lv_at hl 2 rfl) ?_
  refine ocRx (t9 := t9) (r9 := r9) (mc := 1) (ms := 6) B rfl hP hD hS (kX12_bill l hl9 D cA ad hr h0 _ 2000 x1 t r (k, iI v, t9, r9) h9) qco_X12_bill qml_L_91 qin_X12_bill qse_X12_bill qini_X12 (show xCd yX12_bill 1 = true by decide +kernel) (by rw [← erm]; rfl) hl.1 rfl (lv_room (Nat.le_of_ble_eq_true rfl)) dL_act_139 ⟨by rw [← erm]; exact Nat.le_of_ble_eq_true rfl, by rw [← erm]; exact Nat.le_of_ble_eq_true rfl⟩ (fun hne q9 ce H locs hP hD hS hc1 hc2 hc3 => ?_) (fun hk H locs hP hD hS => ?_)
  · have hP := ocQ hP
    have hD := ocQD hD
    rcases hq with hq | hq
    · exact absurd hq hne
    rcases List.mem_cons.mp hq with hq | hq
    · subst hq
      refine vx_catch B.1.2.2.2.1 ((tableOf hh_act).take 25) ⟨137, 142, 224, 60⟩ ((tableOf hh_act).drop 26) (htab.trans (by decide +kernel)) (lPass B.1.2.2.2.2 B.2.2.2.2.2.1.2.1 (E := 3) (by decide) (by decide +kernel)) (by decide) (by decide) (B.1.2.2.2.2 _ qcx_L_60) (B.2.2.2.2.2.1.1.use qca_3) hc1 hc2 hc3 ?_
      refine lv_astore (lv' := [(4, .ref q9), (0, .ref (h0 0)), (1, .int 9), (2, .int x1), (3, .int x2)]) hx hb dL_act_224 hl (by decide) rfl (fun ls hl => ?_)
      refine lv_ldc hx hb B.1.2.2.2.1 (B.1.2.2.2.2 _ qci_L_62) dL_act_226 ?_
      exact lIret (v := (-900002)) (t9, r9) (congrArg some (congrArg Value.int (show iI (exC 3) = (-900002 : Int32) by decide +kernel))) hV9 hx hb B.2.1 B.2.2.1 hP B.2.2.2.1 hD hS dL_act_228
    have hq := List.mem_singleton.mp hq
    subst hq
    refine vx_catch B.1.2.2.2.1 ((tableOf hh_act).take 43) ⟨137, 142, 229, 66⟩ ((tableOf hh_act).drop 44) (htab.trans (by decide +kernel)) (lPass B.1.2.2.2.2 B.2.2.2.2.2.1.2.1 (E := 4) (by decide) (by decide +kernel)) (by decide) (by decide) (B.1.2.2.2.2 _ qcx_L_66) (B.2.2.2.2.2.1.1.use qca_4) hc1 hc2 hc3 ?_
    refine lv_astore (lv' := [(4, .ref q9), (0, .ref (h0 0)), (1, .int 9), (2, .int x1), (3, .int x2)]) hx hb dL_act_229 hl (by decide) rfl (fun ls hl => ?_)
    refine lv_ldc hx hb B.1.2.2.2.1 (B.1.2.2.2.2 _ qci_L_68) dL_act_231 ?_
    exact lIret (v := (-900003)) (t9, r9) (congrArg some (congrArg Value.int (show iI (exC 4) = (-900003 : Int32) by decide +kernel))) hV9 hx hb B.2.1 B.2.2.1 hP B.2.2.2.1 hD hS dL_act_233
  · have hP := ocQ hP
    have hD := ocQD hD
    subst hk
    exact lIret (t9, r9) rfl hV9 hx hb B.2.1 B.2.2.1 hP B.2.2.2.1 hD hS dL_act_142
set_option maxRecDepth 100000 in
set_option maxHeartbeats 4000000 in
theorem l_act10 (l : Launch) (hl9 : l.stackTraces = false) (D : va_G) (cA : Nat → ClassId) (ad an tt : Nat → Nat) (hr : Nat → Nat → Nat) (h0 : Nat → Nat) (sz n : Nat) (x1 : Int32) (x2 : Int32) (t : ThlS) (r : Nat → BooS) (W : SO) (hV : V n t r W) (hn : n + 1 ≤ 512) : lM l yL_act (.codeWith yL_act cL_act 5 (some .int) hh_act) ({ frames := 8, cells := 1, slots := 6, locals := 144 }) D cA ad an tt (fun _ => True) (TR cA ad hr h0 t r) sz [.ref (h0 0), .int 10, .int x1, .int x2] (fun _ => some (.int (iI (resO (lO W (gPay (oS W) x1.toInt)))))) (fun u : ThlS × (Nat → BooS) => V (n + 1) u.1 u.2 (lO W (gPay (oS W) x1.toInt)).2.2) (fun u => TR cA ad hr h0 u.1 u.2) 1 6 := by
  obtain ⟨t9, r9, h9, hV9⟩ := V_pay hV hn x1
  have hq := q_pay W x1.toInt
  generalize lO W (gPay (oS W) x1.toInt) = o at h9 hV9 hq ⊢
  obtain ⟨k, v, W9⟩ := o
  dsimp only at h9 hV9 hq ⊢
  generalize erm : ({ frames := 8, cells := 1, slots := 6, locals := 144 } : Room) = rm
  refine lMetW (by decide) rfl (Nat.le_of_ble_eq_true rfl) ?_
  intro p e s m below meth c A eA B hP hD hS hsz _ htab ls hl
  have hl : lv_has ls 5 [(0, .ref (h0 0)), (1, .int 10), (2, .int x1), (3, .int x2)] := hl
  have hx := B.1.1
  have hb := B.1.2.1
  have hP := ocP hP
  have hD := ocPD hD
  refine lv_iload_n hx hb dL_act_0 rfl (lv_at hl 1 rfl) ?_
  refine lv_tableIn (off := 142) (tgt := 143) hx hb dL_act_1 (by decide) (by decide) (by decide) (by decide) ?_
  refine lv_aload_n hx hb dL_act_143 rfl (lv_at hl 0 rfl) ?_
  refine lv_iload_n hx hb dL_act_144 rfl (lv_at hl 2 rfl) ?_
  refine ocRx (t9 := t9) (r9 := r9) (mc := 1) (ms := 6) B rfl hP hD hS (kX12_pay l hl9 D cA ad hr h0 _ 2000 x1 t r (k, iI v, t9, r9) h9) qco_X12_pay qml_L_94 qin_X12_pay qse_X12_pay qini_X12 (show xCd yX12_pay 1 = true by decide +kernel) (by rw [← erm]; rfl) hl.1 rfl (lv_room (Nat.le_of_ble_eq_true rfl)) dL_act_145 ⟨by rw [← erm]; exact Nat.le_of_ble_eq_true rfl, by rw [← erm]; exact Nat.le_of_ble_eq_true rfl⟩ (fun hne q9 ce H locs hP hD hS hc1 hc2 hc3 => ?_) (fun hk H locs hP hD hS => ?_)
  · have hP := ocQ hP
    have hD := ocQD hD
    rcases hq with hq | hq
    · exact absurd hq hne
    rcases List.mem_cons.mp hq with hq | hq
    · subst hq
      refine vx_catch B.1.2.2.2.1 ((tableOf hh_act).take 26) ⟨143, 148, 224, 60⟩ ((tableOf hh_act).drop 27) (htab.trans (by decide +kernel)) (lPass B.1.2.2.2.2 B.2.2.2.2.2.1.2.1 (E := 3) (by decide) (by decide +kernel)) (by decide) (by decide) (B.1.2.2.2.2 _ qcx_L_60) (B.2.2.2.2.2.1.1.use qca_3) hc1 hc2 hc3 ?_
      refine lv_astore (lv' := [(4, .ref q9), (0, .ref (h0 0)), (1, .int 10), (2, .int x1), (3, .int x2)]) hx hb dL_act_224 hl (by decide) rfl (fun ls hl => ?_)
      refine lv_ldc hx hb B.1.2.2.2.1 (B.1.2.2.2.2 _ qci_L_62) dL_act_226 ?_
      exact lIret (v := (-900002)) (t9, r9) (congrArg some (congrArg Value.int (show iI (exC 3) = (-900002 : Int32) by decide +kernel))) hV9 hx hb B.2.1 B.2.2.1 hP B.2.2.2.1 hD hS dL_act_228
    have hq := List.mem_singleton.mp hq
    subst hq
    refine vx_catch B.1.2.2.2.1 ((tableOf hh_act).take 44) ⟨143, 148, 229, 66⟩ ((tableOf hh_act).drop 45) (htab.trans (by decide +kernel)) (lPass B.1.2.2.2.2 B.2.2.2.2.2.1.2.1 (E := 4) (by decide) (by decide +kernel)) (by decide) (by decide) (B.1.2.2.2.2 _ qcx_L_66) (B.2.2.2.2.2.1.1.use qca_4) hc1 hc2 hc3 ?_
    refine lv_astore (lv' := [(4, .ref q9), (0, .ref (h0 0)), (1, .int 10), (2, .int x1), (3, .int x2)]) hx hb dL_act_229 hl (by decide) rfl (fun ls hl => ?_)
    refine lv_ldc hx hb B.1.2.2.2.1 (B.1.2.2.2.2 _ qci_L_68) dL_act_231 ?_
    exact lIret (v := (-900003)) (t9, r9) (congrArg some (congrArg Value.int (show iI (exC 4) = (-900003 : Int32) by decide +kernel))) hV9 hx hb B.2.1 B.2.2.1 hP B.2.2.2.1 hD hS dL_act_233
  · have hP := ocQ hP
    have hD := ocQD hD
    subst hk
    exact lIret (t9, r9) rfl hV9 hx hb B.2.1 B.2.2.1 hP B.2.2.2.1 hD hS dL_act_148
set_option maxRecDepth 100000 in
set_option maxHeartbeats 4000000 in
theorem l_act12 (l : Launch) (hl9 : l.stackTraces = false) (D : va_G) (cA : Nat → ClassId) (ad an tt : Nat → Nat) (hr : Nat → Nat → Nat) (h0 : Nat → Nat) (sz n : Nat) (x1 : Int32) (x2 : Int32) (t : ThlS) (r : Nat → BooS) (W : SO) (hV : V n t r W) : lM l yL_act (.codeWith yL_act cL_act 5 (some .int) hh_act) ({ frames := 8, cells := 2, slots := 12, locals := 133 }) D cA ad an tt (fun _ => True) (TR cA ad hr h0 t r) sz [.ref (h0 0), .int 12, .int x1, .int x2] (fun _ => some (.int (iI (resR (rParent (oS W) x1.toInt))))) (fun u : ThlS × (Nat → BooS) => V n u.1 u.2 W) (fun u => TR cA ad hr h0 u.1 u.2) 2 12 := by
  have h9 := V_parent hV x1
  have hq := q_parent (oS W) x1.toInt
  generalize rParent (oS W) x1.toInt = o at h9 hq ⊢
  obtain ⟨k, v⟩ := o
  dsimp only at h9 hq ⊢
  generalize erm : ({ frames := 8, cells := 2, slots := 12, locals := 133 } : Room) = rm
  refine lMetW (by decide) rfl (Nat.le_of_ble_eq_true rfl) ?_
  intro p e s m below meth c A eA B hP hD hS hsz _ htab ls hl
  have hl : lv_has ls 5 [(0, .ref (h0 0)), (1, .int 12), (2, .int x1), (3, .int x2)] := hl
  have hx := B.1.1
  have hb := B.1.2.1
  have hP := ocP hP
  have hD := ocPD hD
  refine lv_iload_n hx hb dL_act_0 rfl (lv_at hl 1 rfl) ?_
  refine lv_tableIn (off := 153) (tgt := 154) hx hb dL_act_1 (by decide) (by decide) (by decide) (by decide) ?_
  refine lv_aload_n hx hb dL_act_154 rfl (lv_at hl 0 rfl) ?_
  refine lv_iload_n hx hb dL_act_155 rfl (lv_at hl 2 rfl) ?_
  refine ocTx (t9 := t) (mc := 2) (ms := 12) B rfl hP hD hS (kX12_parent l hl9 D cA ad hr h0 _ 2000 x1 t (k, iI v) h9) qco_X12_parent qml_L_100 qin_X12_parent qse_X12_parent qini_X12 (show xCd yX12_parent 1 = true by decide +kernel) (by rw [← erm]; rfl) hl.1 rfl (lv_room (Nat.le_of_ble_eq_true rfl)) dL_act_156 ⟨by rw [← erm]; exact Nat.le_of_ble_eq_true rfl, by rw [← erm]; exact Nat.le_of_ble_eq_true rfl⟩ (fun hne q9 ce H locs hP hD hS hc1 hc2 hc3 => ?_) (fun hk H locs hP hD hS => ?_)
  · have hP := ocQ hP
    have hD := ocQD hD
    rcases hq with hq | hq
    · exact absurd hq hne
    rcases List.mem_cons.mp hq with hq | hq
    · subst hq
      refine vx_catch B.1.2.2.2.1 ((tableOf hh_act).take 10) ⟨154, 159, 219, 57⟩ ((tableOf hh_act).drop 11) (htab.trans (by decide +kernel)) (lPass B.1.2.2.2.2 B.2.2.2.2.2.1.2.1 (E := 1) (by decide) (by decide +kernel)) (by decide) (by decide) (B.1.2.2.2.2 _ qcx_L_57) (B.2.2.2.2.2.1.1.use qca_1) hc1 hc2 hc3 ?_
      refine lv_astore (lv' := [(4, .ref q9), (0, .ref (h0 0)), (1, .int 12), (2, .int x1), (3, .int x2)]) hx hb dL_act_219 hl (by decide) rfl (fun ls hl => ?_)
      refine lv_ldc hx hb B.1.2.2.2.1 (B.1.2.2.2.2 _ qci_L_59) dL_act_221 ?_
      exact lIret (v := (-900001)) (t, r) (congrArg some (congrArg Value.int (show iI (exC 1) = (-900001 : Int32) by decide +kernel))) hV hx hb B.2.1 B.2.2.1 hP B.2.2.2.1 hD hS dL_act_223
    have hq := List.mem_singleton.mp hq
    subst hq
    refine vx_catch B.1.2.2.2.1 ((tableOf hh_act).take 82) ⟨154, 159, 239, 129⟩ ((tableOf hh_act).drop 83) (htab.trans (by decide +kernel)) (lPass B.1.2.2.2.2 B.2.2.2.2.2.1.2.1 (E := 2) (by decide) (by decide +kernel)) (by decide) (by decide) (B.1.2.2.2.2 _ qcx_L_129) (B.2.2.2.2.2.1.1.use qca_2) hc1 hc2 hc3 ?_
    refine lv_astore (lv' := [(4, .ref q9), (0, .ref (h0 0)), (1, .int 12), (2, .int x1), (3, .int x2)]) hx hb dL_act_239 hl (by decide) rfl (fun ls hl => ?_)
    refine lv_ldc hx hb B.1.2.2.2.1 (B.1.2.2.2.2 _ qci_L_131) dL_act_241 ?_
    exact lIret (v := (-900005)) (t, r) (congrArg some (congrArg Value.int (show iI (exC 2) = (-900005 : Int32) by decide +kernel))) hV hx hb B.2.1 B.2.2.1 hP B.2.2.2.1 hD hS dL_act_243
  · have hP := ocQ hP
    have hD := ocQD hD
    subst hk
    exact lIret (t, r) rfl hV hx hb B.2.1 B.2.2.1 hP B.2.2.2.1 hD hS dL_act_159
set_option maxRecDepth 100000 in
set_option maxHeartbeats 4000000 in
theorem l_act13 (l : Launch) (hl9 : l.stackTraces = false) (D : va_G) (cA : Nat → ClassId) (ad an tt : Nat → Nat) (hr : Nat → Nat → Nat) (h0 : Nat → Nat) (sz n : Nat) (x1 : Int32) (x2 : Int32) (t : ThlS) (r : Nat → BooS) (W : SO) (hV : V n t r W) : lM l yL_act (.codeWith yL_act cL_act 5 (some .int) hh_act) ({ frames := 8, cells := 1, slots := 6, locals := 131 }) D cA ad an tt (fun _ => True) (TR cA ad hr h0 t r) sz [.ref (h0 0), .int 13, .int x1, .int x2] (fun _ => some (.int (iI (resR (rCost (oS W) x1.toInt))))) (fun u : ThlS × (Nat → BooS) => V n u.1 u.2 W) (fun u => TR cA ad hr h0 u.1 u.2) 1 6 := by
  have h9 := V_costOf hV x1
  have hq := q_cost (oS W) x1.toInt
  generalize rCost (oS W) x1.toInt = o at h9 hq ⊢
  obtain ⟨k, v⟩ := o
  dsimp only at h9 hq ⊢
  generalize erm : ({ frames := 8, cells := 1, slots := 6, locals := 131 } : Room) = rm
  refine lMetW (by decide) rfl (Nat.le_of_ble_eq_true rfl) ?_
  intro p e s m below meth c A eA B hP hD hS hsz _ htab ls hl
  have hl : lv_has ls 5 [(0, .ref (h0 0)), (1, .int 13), (2, .int x1), (3, .int x2)] := hl
  have hx := B.1.1
  have hb := B.1.2.1
  have hP := ocP hP
  have hD := ocPD hD
  refine lv_iload_n hx hb dL_act_0 rfl (lv_at hl 1 rfl) ?_
  refine lv_tableIn (off := 159) (tgt := 160) hx hb dL_act_1 (by decide) (by decide) (by decide) (by decide) ?_
  refine lv_aload_n hx hb dL_act_160 rfl (lv_at hl 0 rfl) ?_
  refine lv_iload_n hx hb dL_act_161 rfl (lv_at hl 2 rfl) ?_
  refine ocTx (t9 := t) (mc := 1) (ms := 6) B rfl hP hD hS (kX12_costOf l hl9 D cA ad hr h0 _ 2000 x1 t (k, iI v) h9) qco_X12_costOf qml_L_103 qin_X12_costOf qse_X12_costOf qini_X12 (show xCd yX12_costOf 1 = true by decide +kernel) (by rw [← erm]; rfl) hl.1 rfl (lv_room (Nat.le_of_ble_eq_true rfl)) dL_act_162 ⟨by rw [← erm]; exact Nat.le_of_ble_eq_true rfl, by rw [← erm]; exact Nat.le_of_ble_eq_true rfl⟩ (fun hne q9 ce H locs hP hD hS hc1 hc2 hc3 => ?_) (fun hk H locs hP hD hS => ?_)
  · have hP := ocQ hP
    have hD := ocQD hD
    rcases hq with hq | hq
    · exact absurd hq hne
    rcases List.mem_cons.mp hq with hq | hq
    · subst hq
      refine vx_catch B.1.2.2.2.1 ((tableOf hh_act).take 29) ⟨160, 165, 224, 60⟩ ((tableOf hh_act).drop 30) (htab.trans (by decide +kernel)) (lPass B.1.2.2.2.2 B.2.2.2.2.2.1.2.1 (E := 3) (by decide) (by decide +kernel)) (by decide) (by decide) (B.1.2.2.2.2 _ qcx_L_60) (B.2.2.2.2.2.1.1.use qca_3) hc1 hc2 hc3 ?_
      refine lv_astore (lv' := [(4, .ref q9), (0, .ref (h0 0)), (1, .int 13), (2, .int x1), (3, .int x2)]) hx hb dL_act_224 hl (by decide) rfl (fun ls hl => ?_)
      refine lv_ldc hx hb B.1.2.2.2.1 (B.1.2.2.2.2 _ qci_L_62) dL_act_226 ?_
      exact lIret (v := (-900002)) (t, r) (congrArg some (congrArg Value.int (show iI (exC 3) = (-900002 : Int32) by decide +kernel))) hV hx hb B.2.1 B.2.2.1 hP B.2.2.2.1 hD hS dL_act_228
    have hq := List.mem_singleton.mp hq
    subst hq
    refine vx_catch B.1.2.2.2.1 ((tableOf hh_act).take 47) ⟨160, 165, 229, 66⟩ ((tableOf hh_act).drop 48) (htab.trans (by decide +kernel)) (lPass B.1.2.2.2.2 B.2.2.2.2.2.1.2.1 (E := 4) (by decide) (by decide +kernel)) (by decide) (by decide) (B.1.2.2.2.2 _ qcx_L_66) (B.2.2.2.2.2.1.1.use qca_4) hc1 hc2 hc3 ?_
    refine lv_astore (lv' := [(4, .ref q9), (0, .ref (h0 0)), (1, .int 13), (2, .int x1), (3, .int x2)]) hx hb dL_act_229 hl (by decide) rfl (fun ls hl => ?_)
    refine lv_ldc hx hb B.1.2.2.2.1 (B.1.2.2.2.2 _ qci_L_68) dL_act_231 ?_
    exact lIret (v := (-900003)) (t, r) (congrArg some (congrArg Value.int (show iI (exC 4) = (-900003 : Int32) by decide +kernel))) hV hx hb B.2.1 B.2.2.1 hP B.2.2.2.1 hD hS dL_act_233
  · have hP := ocQ hP
    have hD := ocQD hD
    subst hk
    exact lIret (t, r) rfl hV hx hb B.2.1 B.2.2.1 hP B.2.2.2.1 hD hS dL_act_165
set_option maxRecDepth 100000 in
set_option maxHeartbeats 4000000 in
theorem l_act14 (l : Launch) (hl9 : l.stackTraces = false) (D : va_G) (cA : Nat → ClassId) (ad an tt : Nat → Nat) (hr : Nat → Nat → Nat) (h0 : Nat → Nat) (sz n : Nat) (x1 : Int32) (x2 : Int32) (t : ThlS) (r : Nat → BooS) (W : SO) (hV : V n t r W) : lM l yL_act (.codeWith yL_act cL_act 5 (some .int) hh_act) ({ frames := 8, cells := 1, slots := 6, locals := 131 }) D cA ad an tt (fun _ => True) (TR cA ad hr h0 t r) sz [.ref (h0 0), .int 14, .int x1, .int x2] (fun _ => some (.int (iI (resR (rCost (oS W) x1.toInt))))) (fun u : ThlS × (Nat → BooS) => V n u.1 u.2 W) (fun u => TR cA ad hr h0 u.1 u.2) 1 6 := by
  have h9 := V_costByCostumes hV x1
  have hq := q_cost (oS W) x1.toInt
  generalize rCost (oS W) x1.toInt = o at h9 hq ⊢
  obtain ⟨k, v⟩ := o
  dsimp only at h9 hq ⊢
  generalize erm : ({ frames := 8, cells := 1, slots := 6, locals := 131 } : Room) = rm
  refine lMetW (by decide) rfl (Nat.le_of_ble_eq_true rfl) ?_
  intro p e s m below meth c A eA B hP hD hS hsz _ htab ls hl
  have hl : lv_has ls 5 [(0, .ref (h0 0)), (1, .int 14), (2, .int x1), (3, .int x2)] := hl
  have hx := B.1.1
  have hb := B.1.2.1
  have hP := ocP hP
  have hD := ocPD hD
  refine lv_iload_n hx hb dL_act_0 rfl (lv_at hl 1 rfl) ?_
  refine lv_tableIn (off := 165) (tgt := 166) hx hb dL_act_1 (by decide) (by decide) (by decide) (by decide) ?_
  refine lv_aload_n hx hb dL_act_166 rfl (lv_at hl 0 rfl) ?_
  refine lv_iload_n hx hb dL_act_167 rfl (lv_at hl 2 rfl) ?_
  refine ocTx (t9 := t) (mc := 1) (ms := 6) B rfl hP hD hS (kX12_costByCostumes l hl9 D cA ad hr h0 _ 2000 x1 t (k, iI v) h9) qco_X12_costByCostumes qml_L_106 qin_X12_costByCostumes qse_X12_costByCostumes qini_X12 (show xCd yX12_costByCostumes 1 = true by decide +kernel) (by rw [← erm]; rfl) hl.1 rfl (lv_room (Nat.le_of_ble_eq_true rfl)) dL_act_168 ⟨by rw [← erm]; exact Nat.le_of_ble_eq_true rfl, by rw [← erm]; exact Nat.le_of_ble_eq_true rfl⟩ (fun hne q9 ce H locs hP hD hS hc1 hc2 hc3 => ?_) (fun hk H locs hP hD hS => ?_)
  · have hP := ocQ hP
    have hD := ocQD hD
    rcases hq with hq | hq
    · exact absurd hq hne
    rcases List.mem_cons.mp hq with hq | hq
    · subst hq
      refine vx_catch B.1.2.2.2.1 ((tableOf hh_act).take 30) ⟨166, 171, 224, 60⟩ ((tableOf hh_act).drop 31) (htab.trans (by decide +kernel)) (lPass B.1.2.2.2.2 B.2.2.2.2.2.1.2.1 (E := 3) (by decide) (by decide +kernel)) (by decide) (by decide) (B.1.2.2.2.2 _ qcx_L_60) (B.2.2.2.2.2.1.1.use qca_3) hc1 hc2 hc3 ?_
      refine lv_astore (lv' := [(4, .ref q9), (0, .ref (h0 0)), (1, .int 14), (2, .int x1), (3, .int x2)]) hx hb dL_act_224 hl (by decide) rfl (fun ls hl => ?_)
      refine lv_ldc hx hb B.1.2.2.2.1 (B.1.2.2.2.2 _ qci_L_62) dL_act_226 ?_
      exact lIret (v := (-900002)) (t, r) (congrArg some (congrArg Value.int (show iI (exC 3) = (-900002 : Int32) by decide +kernel))) hV hx hb B.2.1 B.2.2.1 hP B.2.2.2.1 hD hS dL_act_228
    have hq := List.mem_singleton.mp hq
    subst hq
    refine vx_catch B.1.2.2.2.1 ((tableOf hh_act).take 48) ⟨166, 171, 229, 66⟩ ((tableOf hh_act).drop 49) (htab.trans (by decide +kernel)) (lPass B.1.2.2.2.2 B.2.2.2.2.2.1.2.1 (E := 4) (by decide) (by decide +kernel)) (by decide) (by decide) (B.1.2.2.2.2 _ qcx_L_66) (B.2.2.2.2.2.1.1.use qca_4) hc1 hc2 hc3 ?_
    refine lv_astore (lv' := [(4, .ref q9), (0, .ref (h0 0)), (1, .int 14), (2, .int x1), (3, .int x2)]) hx hb dL_act_229 hl (by decide) rfl (fun ls hl => ?_)
    refine lv_ldc hx hb B.1.2.2.2.1 (B.1.2.2.2.2 _ qci_L_68) dL_act_231 ?_
    exact lIret (v := (-900003)) (t, r) (congrArg some (congrArg Value.int (show iI (exC 4) = (-900003 : Int32) by decide +kernel))) hV hx hb B.2.1 B.2.2.1 hP B.2.2.2.1 hD hS dL_act_233
  · have hP := ocQ hP
    have hD := ocQD hD
    subst hk
    exact lIret (t, r) rfl hV hx hb B.2.1 B.2.2.1 hP B.2.2.2.1 hD hS dL_act_171
set_option maxRecDepth 100000 in
set_option maxHeartbeats 4000000 in
theorem l_act15 (l : Launch) (hl9 : l.stackTraces = false) (D : va_G) (cA : Nat → ClassId) (ad an tt : Nat → Nat) (hr : Nat → Nat → Nat) (h0 : Nat → Nat) (sz n : Nat) (x1 : Int32) (x2 : Int32) (t : ThlS) (r : Nat → BooS) (W : SO) (hV : V n t r W) (hm : 1 ≤ x1.toInt ∧ x1.toInt ≤ 999) : lM l yL_act (.codeWith yL_act cL_act 5 (some .int) hh_act) ({ frames := 8, cells := 2, slots := 12, locals := 132 }) D cA ad an tt (fun _ => True) (TR cA ad hr h0 t r) sz [.ref (h0 0), .int 15, .int x1, .int x2] (fun _ => some (.int (iI (resR (rSize (oS W) x1.toInt))))) (fun u : ThlS × (Nat → BooS) => V n u.1 u.2 W) (fun u => TR cA ad hr h0 u.1 u.2) 2 12 := by
  obtain ⟨u, h9⟩ := V_matchSize hV x1 hm
  have hq := q_size (oS W) x1.toInt
  generalize rSize (oS W) x1.toInt = o at h9 hq ⊢
  obtain ⟨k, v⟩ := o
  dsimp only at h9 hq ⊢
  generalize erm : ({ frames := 8, cells := 2, slots := 12, locals := 132 } : Room) = rm
  refine lMetW (by decide) rfl (Nat.le_of_ble_eq_true rfl) ?_
  intro p e s m below meth c A eA B hP hD hS hsz _ htab ls hl
  have hl : lv_has ls 5 [(0, .ref (h0 0)), (1, .int 15), (2, .int x1), (3, .int x2)] := hl
  have hx := B.1.1
  have hb := B.1.2.1
  have hP := ocP hP
  have hD := ocPD hD
  refine lv_iload_n hx hb dL_act_0 rfl (lv_at hl 1 rfl) ?_
  refine lv_tableIn (off := 171) (tgt := 172) hx hb dL_act_1 (by decide) (by decide) (by decide) (by decide) ?_
  refine lv_aload_n hx hb dL_act_172 rfl (lv_at hl 0 rfl) ?_
  refine lv_iload_n hx hb dL_act_173 rfl (lv_at hl 2 rfl) ?_
  refine ocTx (t9 := (Thls3 t u)) (mc := 2) (ms := 12) B rfl hP hD hS (kX12_matchSize l hl9 D cA ad hr h0 _ 2000 x1 t (k, iI v, (Thls3 t u)) h9) qco_X12_matchSize qml_L_109 qin_X12_matchSize qse_X12_matchSize qini_X12 (show xCd yX12_matchSize 1 = true by decide +kernel) (by rw [← erm]; rfl) hl.1 rfl (lv_room (Nat.le_of_ble_eq_true rfl)) dL_act_174 ⟨by rw [← erm]; exact Nat.le_of_ble_eq_true rfl, by rw [← erm]; exact Nat.le_of_ble_eq_true rfl⟩ (fun hne q9 ce H locs hP hD hS hc1 hc2 hc3 => ?_) (fun hk H locs hP hD hS => ?_)
  · have hP := ocQ hP
    have hD := ocQD hD
    rcases hq with hq | hq
    · exact absurd hq hne
    rcases List.mem_cons.mp hq with hq | hq
    · subst hq
      refine vx_catch B.1.2.2.2.1 ((tableOf hh_act).take 31) ⟨172, 177, 224, 60⟩ ((tableOf hh_act).drop 32) (htab.trans (by decide +kernel)) (lPass B.1.2.2.2.2 B.2.2.2.2.2.1.2.1 (E := 3) (by decide) (by decide +kernel)) (by decide) (by decide) (B.1.2.2.2.2 _ qcx_L_60) (B.2.2.2.2.2.1.1.use qca_3) hc1 hc2 hc3 ?_
      refine lv_astore (lv' := [(4, .ref q9), (0, .ref (h0 0)), (1, .int 15), (2, .int x1), (3, .int x2)]) hx hb dL_act_224 hl (by decide) rfl (fun ls hl => ?_)
      refine lv_ldc hx hb B.1.2.2.2.1 (B.1.2.2.2.2 _ qci_L_62) dL_act_226 ?_
      exact lIret (v := (-900002)) ((Thls3 t u), r) (congrArg some (congrArg Value.int (show iI (exC 3) = (-900002 : Int32) by decide +kernel))) hV hx hb B.2.1 B.2.2.1 hP B.2.2.2.1 hD hS dL_act_228
    have hq := List.mem_singleton.mp hq
    subst hq
    refine vx_catch B.1.2.2.2.1 ((tableOf hh_act).take 85) ⟨172, 177, 239, 129⟩ ((tableOf hh_act).drop 86) (htab.trans (by decide +kernel)) (lPass B.1.2.2.2.2 B.2.2.2.2.2.1.2.1 (E := 2) (by decide) (by decide +kernel)) (by decide) (by decide) (B.1.2.2.2.2 _ qcx_L_129) (B.2.2.2.2.2.1.1.use qca_2) hc1 hc2 hc3 ?_
    refine lv_astore (lv' := [(4, .ref q9), (0, .ref (h0 0)), (1, .int 15), (2, .int x1), (3, .int x2)]) hx hb dL_act_239 hl (by decide) rfl (fun ls hl => ?_)
    refine lv_ldc hx hb B.1.2.2.2.1 (B.1.2.2.2.2 _ qci_L_131) dL_act_241 ?_
    exact lIret (v := (-900005)) ((Thls3 t u), r) (congrArg some (congrArg Value.int (show iI (exC 2) = (-900005 : Int32) by decide +kernel))) hV hx hb B.2.1 B.2.2.1 hP B.2.2.2.1 hD hS dL_act_243
  · have hP := ocQ hP
    have hD := ocQD hD
    subst hk
    exact lIret ((Thls3 t u), r) rfl hV hx hb B.2.1 B.2.2.1 hP B.2.2.2.1 hD hS dL_act_177
set_option maxRecDepth 100000 in
set_option maxHeartbeats 4000000 in
theorem l_act16 (l : Launch) (hl9 : l.stackTraces = false) (D : va_G) (cA : Nat → ClassId) (ad an tt : Nat → Nat) (hr : Nat → Nat → Nat) (h0 : Nat → Nat) (sz n : Nat) (x1 : Int32) (x2 : Int32) (t : ThlS) (r : Nat → BooS) (W : SO) (hV : V n t r W) (hm : 1 ≤ x2.toInt ∧ x2.toInt ≤ 999) (hk0 : (rIn (oS W) x1.toInt x2.toInt).1 ≠ 0) : lM l yL_act (.codeWith yL_act cL_act 5 (some .int) hh_act) ({ frames := 8, cells := 3, slots := 18, locals := 136 }) D cA ad an tt (fun _ => True) (TR cA ad hr h0 t r) sz [.ref (h0 0), .int 16, .int x1, .int x2] (fun _ => some (.int (iI (resR (rIn (oS W) x1.toInt x2.toInt))))) (fun u : ThlS × (Nat → BooS) => V n u.1 u.2 W) (fun u => TR cA ad hr h0 u.1 u.2) 3 18 := by
  obtain ⟨u, h9⟩ := V_isInMatch hV x1 x2 hm
  have hq := q_in (oS W) x1.toInt x2.toInt
  generalize rIn (oS W) x1.toInt x2.toInt = o at h9 hq hk0 ⊢
  obtain ⟨k, v⟩ := o
  dsimp only at h9 hq hk0 ⊢
  generalize erm : ({ frames := 8, cells := 3, slots := 18, locals := 136 } : Room) = rm
  refine lMetW (by decide) rfl (Nat.le_of_ble_eq_true rfl) ?_
  intro p e s m below meth c A eA B hP hD hS hsz _ htab ls hl
  have hl : lv_has ls 5 [(0, .ref (h0 0)), (1, .int 16), (2, .int x1), (3, .int x2)] := hl
  have hx := B.1.1
  have hb := B.1.2.1
  have hP := ocP hP
  have hD := ocPD hD
  refine lv_iload_n hx hb dL_act_0 rfl (lv_at hl 1 rfl) ?_
  refine lv_tableIn (off := 177) (tgt := 178) hx hb dL_act_1 (by decide) (by decide) (by decide) (by decide) ?_
  refine lv_aload_n hx hb dL_act_178 rfl (lv_at hl 0 rfl) ?_
  refine lv_iload_n hx hb dL_act_179 rfl (lv_at hl 2 rfl) ?_
  refine lv_iload_n hx hb dL_act_180 rfl (lv_at hl 3 rfl) ?_
  refine ocTx (t9 := (Thls3 t u)) (mc := 3) (ms := 18) B rfl hP hD hS (kX12_isInMatch l hl9 D cA ad hr h0 _ 2000 x1 x2 t (k, iI v, (Thls3 t u)) h9) qco_X12_isInMatch qml_L_112 qin_X12_isInMatch qse_X12_isInMatch qini_X12 (show xCd yX12_isInMatch 2 = true by decide +kernel) (by rw [← erm]; rfl) hl.1 rfl (lv_room (Nat.le_of_ble_eq_true rfl)) dL_act_181 ⟨by rw [← erm]; exact Nat.le_of_ble_eq_true rfl, by rw [← erm]; exact Nat.le_of_ble_eq_true rfl⟩ (fun hne q9 ce H locs hP hD hS hc1 hc2 hc3 => ?_) (fun hk H locs hP hD hS => ?_)
  · have hP := ocQ hP
    have hD := ocQD hD
    rcases hq with hq | hq
    · exact absurd hq hne
    rcases List.mem_cons.mp hq with hq | hq
    · subst hq
      refine vx_catch B.1.2.2.2.1 ((tableOf hh_act).take 86) ⟨178, 192, 239, 129⟩ ((tableOf hh_act).drop 87) (htab.trans (by decide +kernel)) (lPass B.1.2.2.2.2 B.2.2.2.2.2.1.2.1 (E := 2) (by decide) (by decide +kernel)) (by decide) (by decide) (B.1.2.2.2.2 _ qcx_L_129) (B.2.2.2.2.2.1.1.use qca_2) hc1 hc2 hc3 ?_
      refine lv_astore (lv' := [(4, .ref q9), (0, .ref (h0 0)), (1, .int 16), (2, .int x1), (3, .int x2)]) hx hb dL_act_239 hl (by decide) rfl (fun ls hl => ?_)
      refine lv_ldc hx hb B.1.2.2.2.1 (B.1.2.2.2.2 _ qci_L_131) dL_act_241 ?_
      exact lIret (v := (-900005)) ((Thls3 t u), r) (congrArg some (congrArg Value.int (show iI (exC 2) = (-900005 : Int32) by decide +kernel))) hV hx hb B.2.1 B.2.2.1 hP B.2.2.2.1 hD hS dL_act_243
    rcases List.mem_cons.mp hq with hq | hq
    · subst hq
      refine vx_catch B.1.2.2.2.1 ((tableOf hh_act).take 32) ⟨178, 192, 224, 60⟩ ((tableOf hh_act).drop 33) (htab.trans (by decide +kernel)) (lPass B.1.2.2.2.2 B.2.2.2.2.2.1.2.1 (E := 3) (by decide) (by decide +kernel)) (by decide) (by decide) (B.1.2.2.2.2 _ qcx_L_60) (B.2.2.2.2.2.1.1.use qca_3) hc1 hc2 hc3 ?_
      refine lv_astore (lv' := [(4, .ref q9), (0, .ref (h0 0)), (1, .int 16), (2, .int x1), (3, .int x2)]) hx hb dL_act_224 hl (by decide) rfl (fun ls hl => ?_)
      refine lv_ldc hx hb B.1.2.2.2.1 (B.1.2.2.2.2 _ qci_L_62) dL_act_226 ?_
      exact lIret (v := (-900002)) ((Thls3 t u), r) (congrArg some (congrArg Value.int (show iI (exC 3) = (-900002 : Int32) by decide +kernel))) hV hx hb B.2.1 B.2.2.1 hP B.2.2.2.1 hD hS dL_act_228
    have hq := List.mem_singleton.mp hq
    subst hq
    refine vx_catch B.1.2.2.2.1 ((tableOf hh_act).take 50) ⟨178, 192, 229, 66⟩ ((tableOf hh_act).drop 51) (htab.trans (by decide +kernel)) (lPass B.1.2.2.2.2 B.2.2.2.2.2.1.2.1 (E := 4) (by decide) (by decide +kernel)) (by decide) (by decide) (B.1.2.2.2.2 _ qcx_L_66) (B.2.2.2.2.2.1.1.use qca_4) hc1 hc2 hc3 ?_
    refine lv_astore (lv' := [(4, .ref q9), (0, .ref (h0 0)), (1, .int 16), (2, .int x1), (3, .int x2)]) hx hb dL_act_229 hl (by decide) rfl (fun ls hl => ?_)
    refine lv_ldc hx hb B.1.2.2.2.1 (B.1.2.2.2.2 _ qci_L_68) dL_act_231 ?_
    exact lIret (v := (-900003)) ((Thls3 t u), r) (congrArg some (congrArg Value.int (show iI (exC 4) = (-900003 : Int32) by decide +kernel))) hV hx hb B.2.1 B.2.2.1 hP B.2.2.2.1 hD hS dL_act_233
  · exact absurd hk hk0
set_option maxRecDepth 100000 in
set_option maxHeartbeats 4000000 in
theorem l_act17 (l : Launch) (hl9 : l.stackTraces = false) (D : va_G) (cA : Nat → ClassId) (ad an tt : Nat → Nat) (hr : Nat → Nat → Nat) (h0 : Nat → Nat) (sz n : Nat) (x1 : Int32) (x2 : Int32) (t : ThlS) (r : Nat → BooS) (W : SO) (hV : V n t r W) : lM l yL_act (.codeWith yL_act cL_act 5 (some .int) hh_act) ({ frames := 8, cells := 1, slots := 6, locals := 134 }) D cA ad an tt (fun _ => True) (TR cA ad hr h0 t r) sz [.ref (h0 0), .int 17, .int x1, .int x2] (fun _ => some (.int (iI (resR (rOpenA (oS W) x1.toInt))))) (fun u : ThlS × (Nat → BooS) => V n u.1 u.2 W) (fun u => TR cA ad hr h0 u.1 u.2) 1 6 := by
  have h9 := V_openAmount hV x1
  have hq := q_openA (oS W) x1.toInt
  generalize rOpenA (oS W) x1.toInt = o at h9 hq ⊢
  obtain ⟨k, v⟩ := o
  dsimp only at h9 hq ⊢
  generalize erm : ({ frames := 8, cells := 1, slots := 6, locals := 134 } : Room) = rm
  refine lMetW (by decide) rfl (Nat.le_of_ble_eq_true rfl) ?_
  intro p e s m below meth c A eA B hP hD hS hsz _ htab ls hl
  have hl : lv_has ls 5 [(0, .ref (h0 0)), (1, .int 17), (2, .int x1), (3, .int x2)] := hl
  have hx := B.1.1
  have hb := B.1.2.1
  have hP := ocP hP
  have hD := ocPD hD
  refine lv_iload_n hx hb dL_act_0 rfl (lv_at hl 1 rfl) ?_
  refine lv_tableIn (off := 192) (tgt := 193) hx hb dL_act_1 (by decide) (by decide) (by decide) (by decide) ?_
  refine lv_aload_n hx hb dL_act_193 rfl (lv_at hl 0 rfl) ?_
  refine lv_iload_n hx hb dL_act_194 rfl (lv_at hl 2 rfl) ?_
  refine ocTx (t9 := t) (mc := 1) (ms := 6) B rfl hP hD hS (kX12_openAmount l hl9 D cA ad hr h0 _ 2000 x1 t (k, iI v) h9) qco_X12_openAmount qml_L_116 qin_X12_openAmount qse_X12_openAmount qini_X12 (show xCd yX12_openAmount 1 = true by decide +kernel) (by rw [← erm]; rfl) hl.1 rfl (lv_room (Nat.le_of_ble_eq_true rfl)) dL_act_195 ⟨by rw [← erm]; exact Nat.le_of_ble_eq_true rfl, by rw [← erm]; exact Nat.le_of_ble_eq_true rfl⟩ (fun hne q9 ce H locs hP hD hS hc1 hc2 hc3 => ?_) (fun hk H locs hP hD hS => ?_)
  · have hP := ocQ hP
    have hD := ocQD hD
    rcases hq with hq | hq
    · exact absurd hq hne
    have hq := List.mem_singleton.mp hq
    subst hq
    refine vx_catch B.1.2.2.2.1 ((tableOf hh_act).take 87) ⟨193, 198, 239, 129⟩ ((tableOf hh_act).drop 88) (htab.trans (by decide +kernel)) (lPass B.1.2.2.2.2 B.2.2.2.2.2.1.2.1 (E := 2) (by decide) (by decide +kernel)) (by decide) (by decide) (B.1.2.2.2.2 _ qcx_L_129) (B.2.2.2.2.2.1.1.use qca_2) hc1 hc2 hc3 ?_
    refine lv_astore (lv' := [(4, .ref q9), (0, .ref (h0 0)), (1, .int 17), (2, .int x1), (3, .int x2)]) hx hb dL_act_239 hl (by decide) rfl (fun ls hl => ?_)
    refine lv_ldc hx hb B.1.2.2.2.1 (B.1.2.2.2.2 _ qci_L_131) dL_act_241 ?_
    exact lIret (v := (-900005)) (t, r) (congrArg some (congrArg Value.int (show iI (exC 2) = (-900005 : Int32) by decide +kernel))) hV hx hb B.2.1 B.2.2.1 hP B.2.2.2.1 hD hS dL_act_243
  · have hP := ocQ hP
    have hD := ocQD hD
    subst hk
    exact lIret (t, r) rfl hV hx hb B.2.1 B.2.2.1 hP B.2.2.2.1 hD hS dL_act_198
set_option maxRecDepth 100000 in
set_option maxHeartbeats 4000000 in
theorem l_act11 (l : Launch) (hl9 : l.stackTraces = false) (D : va_G) (cA : Nat → ClassId) (ad an tt : Nat → Nat) (hr : Nat → Nat → Nat) (h0 : Nat → Nat) (sz n : Nat) (x1 : Int32) (x2 : Int32) (t : ThlS) (r : Nat → BooS) (W : SO) (hV : V n t r W) (hn : n + 1 ≤ 512) : lM l yL_act (.codeWith yL_act cL_act 5 (some .int) hh_act) ({ frames := 6, cells := 0, slots := 0, locals := 143 }) D cA ad an tt (fun _ => True) (TR cA ad hr h0 t r) sz [.ref (h0 0), .int 11, .int x1, .int x2] (fun _ => some (.int (iI (resO (oCur W))))) (fun u : ThlS × (Nat → BooS) => V (n + 1) u.1 u.2 (oCur W).2.2) (fun u => TR cA ad hr h0 u.1 u.2) 0 0 := by
  obtain ⟨t9, r9, h9, hV9⟩ := V_curtain hV hn
  generalize erm : ({ frames := 6, cells := 0, slots := 0, locals := 143 } : Room) = rm
  refine lMetW (by decide) rfl (Nat.le_of_ble_eq_true rfl) ?_
  intro p e s m below meth c A eA B hP hD hS hsz _ htab ls hl
  have hl : lv_has ls 5 [(0, .ref (h0 0)), (1, .int 11), (2, .int x1), (3, .int x2)] := hl
  have hx := B.1.1
  have hb := B.1.2.1
  have hP := ocP hP
  have hD := ocPD hD
  refine lv_iload_n hx hb dL_act_0 rfl (lv_at hl 1 rfl) ?_
  refine lv_tableIn (off := 148) (tgt := 149) hx hb dL_act_1 (by decide) (by decide) (by decide) (by decide) ?_
  refine lv_aload_n hx hb dL_act_149 rfl (lv_at hl 0 rfl) ?_
  refine ocRz (t9 := t9) (r9 := r9) B rfl hP hD hS (kX12_curtain l D cA ad hr h0 _ 2000 t r (iI (oCur W).2.1, t9, r9) h9) qco_X12_curtain qml_L_97 qin_X12_curtain qse_X12_curtain qini_X12 (show xCd yX12_curtain 0 = true by decide +kernel) (by rw [← erm]; rfl) hl.1 rfl (lv_room (Nat.le_of_ble_eq_true rfl)) dL_act_150 ⟨Nat.zero_le _, Nat.zero_le _⟩ (fun H locs hP hD hS => ?_)
  exact lIret (t9, r9) rfl hV9 hx hb B.2.1 B.2.2.1 (ocQ hP) B.2.2.2.1 (ocQD hD) hS dL_act_153
