/-! cases -/
section CASES
variable {p : Program} {l : Launch} {e : Env} {R : Room} {s : State} {m : MethodId} {args : Array Value} {below : List Frame} {meth : Method} {c : Code} {H : Heap} {locs : List Loc} {cells slots : Nat} {Q : State → Prop}
variable {ls : Array Slot} {D : va_G} {cA : Nat → ClassId} {ad : Nat → Nat} {A : Nat → Prop} {b L : Nat} {xs : Nat → Int32} {hm : Nat → Nat} {hr : Nat → Nat → Nat} {h0 : Nat → Nat} {o od N i n : Nat} {f : Nat → Int64} {g : Nat → UInt64} {s0 : ThlS} {s1 : Nat → BooS} {sm : MS}
set_option maxRecDepth 100000 in
set_option maxHeartbeats 4000000 in
theorem v_balance (C : LC p l R s m args c D cA ad A b L xs) (hN : 2000 ≤ N) (hi : i + 6 ≤ L) (hI : IV n s0 s1 sm) (hn : n + 1 ≤ 512) (hcl : cells + 3 ≤ 603072) (hsl : slots + 18 ≤ 7198826) (hP : va_P D vwCl (LW cA ad hm hr h0 o od f g sm s0 s1) H) (hD : va_D A (LW cA ad hm hr h0 o od f g sm s0 s1)) (hS : va_S A s.heap H locs) (hl : lv_has ls 9 [(5, .int (iI (i : Int))), (4, .ref od), (3, .ref o), (2, .ref (hm 0)), (1, .ref (h0 0)), (0, .ref b)])
    (kk : LK p l e R s m args below meth c cells slots Q D cA ad A b hm hr h0 o od i n) : W p l e R s m args below meth c H locs cells slots Q (F0 m 1287 ls []) := by
  obtain ⟨⟨hx, hb, hml, hown, hts⟩, hl9, eR, hN9, hE, hV, hX, hK, hA, hXs, hbl, hbA, hL9⟩ := C
  have hst := st_balance (t := s0) (r := s1) (s := sm) hN hI hn (xs (i + 1))
  obtain ⟨k, v, v9, sm9, hc9, hm9, hth, hq, hv, hI9⟩ := hst
  refine lv_aload_n hx hb dL_law_1287 rfl (lv_at hl 4 rfl) ?_
  refine lv_aload_n hx hb dL_law_1288 rfl (lv_at hl 5 rfl) ?_
  refine lv_iload hx hb dL_law_1289 (lv_at hl 0 rfl) ?_
  refine lv_iconst (v := 1) hx hb dL_law_1291 (by decide) ?_
  refine lv_iadd hx hb dL_law_1292 ?_
  refine vSld hx hb hXs hbl hbA hS (k := i + 1) (sIx1 hi hL9) dL_law_1293 ?_
  refine lv_aload_n hx hb dL_law_1294 rfl (lv_at hl 2 rfl) ?_
  refine hCall (w2 := LW cA ad hm hr h0 o od (fU k f v) g sm s0 s1) (hRunS (n := 3) (As := [.ref (h0 0), .int (xs (i + 1)), .ref o]) (rest := []) ⟨hx, hb, hml, hown, hts⟩ (h_balance l hl9 D cA ad hr h0 o od _ N ((xs (i + 1))) f g s0 s1 k v hc9 hq) qcw_L_balance qml_L_245 qst_L_balance qini_L (by decide +kernel) (by rw [eR]; rfl) hN9 hE hV hX hS hA hK hP hD (mid 8 288) (LW_hC _ _ _ _ _ _ _ _ _ _ _ _) (mid_nd _ _) rfl rfl hl.1 rfl (lv_room (Nat.le_of_ble_eq_true rfl)) dL_law_1295 ⟨by rw [eR]; show cells + 1 ≤ 603072; omega, by rw [eR]; show slots + 6 ≤ 7198826; omega⟩) hP hD hS hA (mid 8 288) (LW_hC _ _ _ _ _ _ _ _ _ _ _ _) (HW_fst _ _ _ _ _ _ _ _ _ _ _ _ _ _) (LW_hH _ _ _ _ _ _ _ _ _ _ _ _ _ _ _ _) (fun H locs hP hD hS => ?_)
  refine lv_istore (lv' := [(6, .int (iI (lawC [1] k : Int))), (5, .int (iI (i : Int))), (4, .ref od), (3, .ref o), (2, .ref (hm 0)), (1, .ref (h0 0)), (0, .ref b)]) hx hb dL_law_1298 hl (by decide) rfl (fun ls hl => ?_)
  refine lv_aload_n hx hb dL_law_1300 rfl (lv_at hl 4 rfl) ?_
  refine lv_aload_n hx hb dL_law_1301 rfl (lv_at hl 6 rfl) ?_
  refine lv_iload hx hb dL_law_1302 (lv_at hl 1 rfl) ?_
  refine lv_iconst (v := 1) hx hb dL_law_1304 (by decide) ?_
  refine lv_iadd hx hb dL_law_1305 ?_
  refine vSld hx hb hXs hbl hbA hS (k := i + 1) (sIx1 hi hL9) dL_law_1306 ?_
  refine xCallH (w2 := LW cA ad hm hr h0 o od (fU k f v) g sm9 s0 s1) (xRunV (n := 1) (As := [.int (xs (i + 1))]) (rest := []) ⟨hx, hb, hml, hown, hts⟩ (kX13_balance l D cA hm _ N ((xs (i + 1))) sm (v9, sm9) hm9) qco_X13_balance qml_L_247 qin_X13_balance qse_X13_balance qini_X13 (by decide +kernel) (by rw [eR]; rfl) hK hP hD (mid 0 8) (LW_mC _ _ _ _ _ _ _ _ _ _ _ _) (mid_nd _ _) (q0 := 0) rfl rfl rfl rfl rfl hl.1 rfl (lv_room (Nat.le_of_ble_eq_true rfl)) dL_law_1307 ⟨by rw [eR]; show cells + 1 ≤ 603072; omega, by rw [eR]; show slots + 6 ≤ 7198826; omega⟩) hP hD hS hA (mid 0 8) (LW_mC _ _ _ _ _ _ _ _ _ _ _ _) rfl (LW_mH _ _ _ _ _ _ _ _ _ _ _ _ _) (fun H locs hP hD hS => ?_)
  refine lv_lstore (lv' := [(7, .long v9), (6, .int (iI (lawC [1] k : Int))), (5, .int (iI (i : Int))), (4, .ref od), (3, .ref o), (2, .ref (hm 0)), (1, .ref (h0 0)), (0, .ref b)]) hx hb dL_law_1310 hl (by decide) rfl (fun ls hl => ?_)
  refine lv_aload_n hx hb dL_law_1312 rfl (lv_at hl 5 rfl) ?_
  refine xCallH (w2 := LW cA ad hm hr h0 o od (fU k f v) g sm9 s0 s1) (xRunV (n := 0) (As := []) (rest := []) ⟨hx, hb, hml, hown, hts⟩ (kX13_thrown l D cA hm _ N sm9 _ rfl) qco_X13_thrown qml_L_184 qin_X13_thrown qse_X13_thrown qini_X13 (by decide +kernel) (by rw [eR]; rfl) hK hP hD (mid 0 8) (LW_mC _ _ _ _ _ _ _ _ _ _ _ _) (mid_nd _ _) (q0 := 0) rfl rfl rfl rfl rfl hl.1 rfl (lv_room (Nat.le_of_ble_eq_true rfl)) dL_law_1313 ⟨by rw [eR]; show cells + 1 ≤ 603072; omega, by rw [eR]; show slots + 6 ≤ 7198826; omega⟩) hP hD hS hA (mid 0 8) (LW_mC _ _ _ _ _ _ _ _ _ _ _ _) rfl (LW_mH _ _ _ _ _ _ _ _ _ _ _ _ _) (fun H locs hP hD hS => ?_)
  refine lv_iload hx hb dL_law_1316 (lv_at hl 1 rfl) ?_
  refine lv_icmp_eq (tgt := 1323) hx hb dL_law_1318 (by decide) (fun _ => ?_) (fun c9 => absurd hth c9)
  refine lv_iload hx hb dL_law_1323 (lv_at hl 1 rfl) ?_
  refine lv_if_ne (tgt := 1339) hx hb dL_law_1325 (by decide) (fun c9 => ?_) (fun c9 => ?_)
  · refine lv_goto (tgt := 3247) hx hb dL_law_1339 (by decide) ?_
    refine W.widen (k := cells + 3) (n := slots + 18) (by omega) (by omega) ?_
    exact kk _ _ _ _ _ hI9 _ _ hP hD hS _ (lv_sub hl [2, 3, 4, 5, 6, 7] rfl)
  · have hk : k = 0 := Classical.byContradiction fun hk => lawC_nz hk (by decide) c9
    subst hk
    have hvv := hv rfl
    subst hvv
    refine lv_aload_n hx hb dL_law_1328 rfl (lv_at hl 4 rfl) ?_
    refine lv_iconst (v := 0) hx hb dL_law_1329 (by decide) ?_
    refine va_lald hx hb hK hP 8 2 rfl rfl (x_lit (n := 1) (k := 0) (by decide)).1 dL_law_1330 ?_
    rw [fU_0]
    refine lv_lload hx hb dL_law_1331 (lv_at hl 0 rfl) ?_
    refine W.lcmp hx hb dL_law_1333 ?_
    rw [lg_self]
    refine lv_if_eq (tgt := 1339) hx hb dL_law_1334 (by decide) (fun _ => ?_) (fun c9 => absurd rfl c9)
    refine lv_goto (tgt := 3247) hx hb dL_law_1339 (by decide) ?_
    refine W.widen (k := cells + 3) (n := slots + 18) (by omega) (by omega) ?_
    exact kk _ _ _ _ _ hI9 _ _ hP hD hS _ (lv_sub hl [2, 3, 4, 5, 6, 7] rfl)
set_option maxRecDepth 100000 in
set_option maxHeartbeats 4000000 in
theorem v_treeBalance (C : LC p l R s m args c D cA ad A b L xs) (hN : 2000 ≤ N) (hi : i + 6 ≤ L) (hI : IV n s0 s1 sm) (hn : n + 1 ≤ 512) (hcl : cells + 3 ≤ 603072) (hsl : slots + 18 ≤ 7198826) (hP : va_P D vwCl (LW cA ad hm hr h0 o od f g sm s0 s1) H) (hD : va_D A (LW cA ad hm hr h0 o od f g sm s0 s1)) (hS : va_S A s.heap H locs) (hl : lv_has ls 9 [(5, .int (iI (i : Int))), (4, .ref od), (3, .ref o), (2, .ref (hm 0)), (1, .ref (h0 0)), (0, .ref b)])
    (kk : LK p l e R s m args below meth c cells slots Q D cA ad A b hm hr h0 o od i n) : W p l e R s m args below meth c H locs cells slots Q (F0 m 1342 ls []) := by
  obtain ⟨⟨hx, hb, hml, hown, hts⟩, hl9, eR, hN9, hE, hV, hX, hK, hA, hXs, hbl, hbA, hL9⟩ := C
  have hst := st_treeBalance (t := s0) (r := s1) (s := sm) hN hI hn (xs (i + 1))
  obtain ⟨k, v, v9, sm9, hc9, hm9, hth, hq, hv, hI9⟩ := hst
  refine lv_aload_n hx hb dL_law_1342 rfl (lv_at hl 4 rfl) ?_
  refine lv_aload_n hx hb dL_law_1343 rfl (lv_at hl 5 rfl) ?_
  refine lv_iload hx hb dL_law_1344 (lv_at hl 0 rfl) ?_
  refine lv_iconst (v := 1) hx hb dL_law_1346 (by decide) ?_
  refine lv_iadd hx hb dL_law_1347 ?_
  refine vSld hx hb hXs hbl hbA hS (k := i + 1) (sIx1 hi hL9) dL_law_1348 ?_
  refine lv_aload_n hx hb dL_law_1349 rfl (lv_at hl 2 rfl) ?_
  refine hCall (w2 := LW cA ad hm hr h0 o od (fU k f v) g sm s0 s1) (hRunS (n := 3) (As := [.ref (h0 0), .int (xs (i + 1)), .ref o]) (rest := []) ⟨hx, hb, hml, hown, hts⟩ (h_treeBalance l hl9 D cA ad hr h0 o od _ N ((xs (i + 1))) f g s0 s1 k v hc9 hq) qcw_L_treeBalance qml_L_248 qst_L_treeBalance qini_L (by decide +kernel) (by rw [eR]; rfl) hN9 hE hV hX hS hA hK hP hD (mid 8 288) (LW_hC _ _ _ _ _ _ _ _ _ _ _ _) (mid_nd _ _) rfl rfl hl.1 rfl (lv_room (Nat.le_of_ble_eq_true rfl)) dL_law_1350 ⟨by rw [eR]; show cells + 1 ≤ 603072; omega, by rw [eR]; show slots + 6 ≤ 7198826; omega⟩) hP hD hS hA (mid 8 288) (LW_hC _ _ _ _ _ _ _ _ _ _ _ _) (HW_fst _ _ _ _ _ _ _ _ _ _ _ _ _ _) (LW_hH _ _ _ _ _ _ _ _ _ _ _ _ _ _ _ _) (fun H locs hP hD hS => ?_)
  refine lv_istore (lv' := [(6, .int (iI (lawC [1] k : Int))), (5, .int (iI (i : Int))), (4, .ref od), (3, .ref o), (2, .ref (hm 0)), (1, .ref (h0 0)), (0, .ref b)]) hx hb dL_law_1353 hl (by decide) rfl (fun ls hl => ?_)
  refine lv_aload_n hx hb dL_law_1355 rfl (lv_at hl 4 rfl) ?_
  refine lv_aload_n hx hb dL_law_1356 rfl (lv_at hl 6 rfl) ?_
  refine lv_iload hx hb dL_law_1357 (lv_at hl 1 rfl) ?_
  refine lv_iconst (v := 1) hx hb dL_law_1359 (by decide) ?_
  refine lv_iadd hx hb dL_law_1360 ?_
  refine vSld hx hb hXs hbl hbA hS (k := i + 1) (sIx1 hi hL9) dL_law_1361 ?_
  refine xCallH (w2 := LW cA ad hm hr h0 o od (fU k f v) g sm9 s0 s1) (xRunV (n := 1) (As := [.int (xs (i + 1))]) (rest := []) ⟨hx, hb, hml, hown, hts⟩ (kX13_treeBalance l D cA hm _ N ((xs (i + 1))) sm (v9, sm9) hm9) qco_X13_treeBalance qml_L_250 qin_X13_treeBalance qse_X13_treeBalance qini_X13 (by decide +kernel) (by rw [eR]; rfl) hK hP hD (mid 0 8) (LW_mC _ _ _ _ _ _ _ _ _ _ _ _) (mid_nd _ _) (q0 := 0) rfl rfl rfl rfl rfl hl.1 rfl (lv_room (Nat.le_of_ble_eq_true rfl)) dL_law_1362 ⟨by rw [eR]; show cells + 1 ≤ 603072; omega, by rw [eR]; show slots + 6 ≤ 7198826; omega⟩) hP hD hS hA (mid 0 8) (LW_mC _ _ _ _ _ _ _ _ _ _ _ _) rfl (LW_mH _ _ _ _ _ _ _ _ _ _ _ _ _) (fun H locs hP hD hS => ?_)
  refine lv_lstore (lv' := [(7, .long v9), (6, .int (iI (lawC [1] k : Int))), (5, .int (iI (i : Int))), (4, .ref od), (3, .ref o), (2, .ref (hm 0)), (1, .ref (h0 0)), (0, .ref b)]) hx hb dL_law_1365 hl (by decide) rfl (fun ls hl => ?_)
  refine lv_aload_n hx hb dL_law_1367 rfl (lv_at hl 5 rfl) ?_
  refine xCallH (w2 := LW cA ad hm hr h0 o od (fU k f v) g sm9 s0 s1) (xRunV (n := 0) (As := []) (rest := []) ⟨hx, hb, hml, hown, hts⟩ (kX13_thrown l D cA hm _ N sm9 _ rfl) qco_X13_thrown qml_L_184 qin_X13_thrown qse_X13_thrown qini_X13 (by decide +kernel) (by rw [eR]; rfl) hK hP hD (mid 0 8) (LW_mC _ _ _ _ _ _ _ _ _ _ _ _) (mid_nd _ _) (q0 := 0) rfl rfl rfl rfl rfl hl.1 rfl (lv_room (Nat.le_of_ble_eq_true rfl)) dL_law_1368 ⟨by rw [eR]; show cells + 1 ≤ 603072; omega, by rw [eR]; show slots + 6 ≤ 7198826; omega⟩) hP hD hS hA (mid 0 8) (LW_mC _ _ _ _ _ _ _ _ _ _ _ _) rfl (LW_mH _ _ _ _ _ _ _ _ _ _ _ _ _) (fun H locs hP hD hS => ?_)
  refine lv_iload hx hb dL_law_1371 (lv_at hl 1 rfl) ?_
  refine lv_icmp_eq (tgt := 1378) hx hb dL_law_1373 (by decide) (fun _ => ?_) (fun c9 => absurd hth c9)
  refine lv_iload hx hb dL_law_1378 (lv_at hl 1 rfl) ?_
  refine lv_if_ne (tgt := 1394) hx hb dL_law_1380 (by decide) (fun c9 => ?_) (fun c9 => ?_)
  · refine lv_goto (tgt := 3247) hx hb dL_law_1394 (by decide) ?_
    refine W.widen (k := cells + 3) (n := slots + 18) (by omega) (by omega) ?_
    exact kk _ _ _ _ _ hI9 _ _ hP hD hS _ (lv_sub hl [2, 3, 4, 5, 6, 7] rfl)
  · have hk : k = 0 := Classical.byContradiction fun hk => lawC_nz hk (by decide) c9
    subst hk
    have hvv := hv rfl
    subst hvv
    refine lv_aload_n hx hb dL_law_1383 rfl (lv_at hl 4 rfl) ?_
    refine lv_iconst (v := 0) hx hb dL_law_1384 (by decide) ?_
    refine va_lald hx hb hK hP 8 2 rfl rfl (x_lit (n := 1) (k := 0) (by decide)).1 dL_law_1385 ?_
    rw [fU_0]
    refine lv_lload hx hb dL_law_1386 (lv_at hl 0 rfl) ?_
    refine W.lcmp hx hb dL_law_1388 ?_
    rw [lg_self]
    refine lv_if_eq (tgt := 1394) hx hb dL_law_1389 (by decide) (fun _ => ?_) (fun c9 => absurd rfl c9)
    refine lv_goto (tgt := 3247) hx hb dL_law_1394 (by decide) ?_
    refine W.widen (k := cells + 3) (n := slots + 18) (by omega) (by omega) ?_
    exact kk _ _ _ _ _ hI9 _ _ hP hD hS _ (lv_sub hl [2, 3, 4, 5, 6, 7] rfl)
set_option maxRecDepth 100000 in
set_option maxHeartbeats 4000000 in
theorem v_treeBalanceByParents (C : LC p l R s m args c D cA ad A b L xs) (hN : 2000 ≤ N) (hi : i + 6 ≤ L) (hI : IV n s0 s1 sm) (hn : n + 1 ≤ 512) (hcl : cells + 3 ≤ 603072) (hsl : slots + 18 ≤ 7198826) (hP : va_P D vwCl (LW cA ad hm hr h0 o od f g sm s0 s1) H) (hD : va_D A (LW cA ad hm hr h0 o od f g sm s0 s1)) (hS : va_S A s.heap H locs) (hl : lv_has ls 9 [(5, .int (iI (i : Int))), (4, .ref od), (3, .ref o), (2, .ref (hm 0)), (1, .ref (h0 0)), (0, .ref b)])
    (kk : LK p l e R s m args below meth c cells slots Q D cA ad A b hm hr h0 o od i n) : W p l e R s m args below meth c H locs cells slots Q (F0 m 1397 ls []) := by
  obtain ⟨⟨hx, hb, hml, hown, hts⟩, hl9, eR, hN9, hE, hV, hX, hK, hA, hXs, hbl, hbA, hL9⟩ := C
  have hst := st_treeBalanceByParents (t := s0) (r := s1) (s := sm) hN hI hn (xs (i + 1))
  obtain ⟨k, v, v9, sm9, hc9, hm9, hth, hq, hv, hI9⟩ := hst
  refine lv_aload_n hx hb dL_law_1397 rfl (lv_at hl 4 rfl) ?_
  refine lv_aload_n hx hb dL_law_1398 rfl (lv_at hl 5 rfl) ?_
  refine lv_iload hx hb dL_law_1399 (lv_at hl 0 rfl) ?_
  refine lv_iconst (v := 1) hx hb dL_law_1401 (by decide) ?_
  refine lv_iadd hx hb dL_law_1402 ?_
  refine vSld hx hb hXs hbl hbA hS (k := i + 1) (sIx1 hi hL9) dL_law_1403 ?_
  refine lv_aload_n hx hb dL_law_1404 rfl (lv_at hl 2 rfl) ?_
  refine hCall (w2 := LW cA ad hm hr h0 o od (fU k f v) g sm s0 s1) (hRunS (n := 3) (As := [.ref (h0 0), .int (xs (i + 1)), .ref o]) (rest := []) ⟨hx, hb, hml, hown, hts⟩ (h_treeBalanceByParents l hl9 D cA ad hr h0 o od _ N ((xs (i + 1))) f g s0 s1 k v hc9 hq) qcw_L_treeBalanceByParents qml_L_251 qst_L_treeBalanceByParents qini_L (by decide +kernel) (by rw [eR]; rfl) hN9 hE hV hX hS hA hK hP hD (mid 8 288) (LW_hC _ _ _ _ _ _ _ _ _ _ _ _) (mid_nd _ _) rfl rfl hl.1 rfl (lv_room (Nat.le_of_ble_eq_true rfl)) dL_law_1405 ⟨by rw [eR]; show cells + 1 ≤ 603072; omega, by rw [eR]; show slots + 6 ≤ 7198826; omega⟩) hP hD hS hA (mid 8 288) (LW_hC _ _ _ _ _ _ _ _ _ _ _ _) (HW_fst _ _ _ _ _ _ _ _ _ _ _ _ _ _) (LW_hH _ _ _ _ _ _ _ _ _ _ _ _ _ _ _ _) (fun H locs hP hD hS => ?_)
  refine lv_istore (lv' := [(6, .int (iI (lawC [1] k : Int))), (5, .int (iI (i : Int))), (4, .ref od), (3, .ref o), (2, .ref (hm 0)), (1, .ref (h0 0)), (0, .ref b)]) hx hb dL_law_1408 hl (by decide) rfl (fun ls hl => ?_)
  refine lv_aload_n hx hb dL_law_1410 rfl (lv_at hl 4 rfl) ?_
  refine lv_aload_n hx hb dL_law_1411 rfl (lv_at hl 6 rfl) ?_
  refine lv_iload hx hb dL_law_1412 (lv_at hl 1 rfl) ?_
  refine lv_iconst (v := 1) hx hb dL_law_1414 (by decide) ?_
  refine lv_iadd hx hb dL_law_1415 ?_
  refine vSld hx hb hXs hbl hbA hS (k := i + 1) (sIx1 hi hL9) dL_law_1416 ?_
  refine xCallH (w2 := LW cA ad hm hr h0 o od (fU k f v) g sm9 s0 s1) (xRunV (n := 1) (As := [.int (xs (i + 1))]) (rest := []) ⟨hx, hb, hml, hown, hts⟩ (kX13_treeBalanceByParents l D cA hm _ N ((xs (i + 1))) sm (v9, sm9) hm9) qco_X13_treeBalanceByParents qml_L_253 qin_X13_treeBalanceByParents qse_X13_treeBalanceByParents qini_X13 (by decide +kernel) (by rw [eR]; rfl) hK hP hD (mid 0 8) (LW_mC _ _ _ _ _ _ _ _ _ _ _ _) (mid_nd _ _) (q0 := 0) rfl rfl rfl rfl rfl hl.1 rfl (lv_room (Nat.le_of_ble_eq_true rfl)) dL_law_1417 ⟨by rw [eR]; show cells + 1 ≤ 603072; omega, by rw [eR]; show slots + 6 ≤ 7198826; omega⟩) hP hD hS hA (mid 0 8) (LW_mC _ _ _ _ _ _ _ _ _ _ _ _) rfl (LW_mH _ _ _ _ _ _ _ _ _ _ _ _ _) (fun H locs hP hD hS => ?_)
  refine lv_lstore (lv' := [(7, .long v9), (6, .int (iI (lawC [1] k : Int))), (5, .int (iI (i : Int))), (4, .ref od), (3, .ref o), (2, .ref (hm 0)), (1, .ref (h0 0)), (0, .ref b)]) hx hb dL_law_1420 hl (by decide) rfl (fun ls hl => ?_)
  refine lv_aload_n hx hb dL_law_1422 rfl (lv_at hl 5 rfl) ?_
  refine xCallH (w2 := LW cA ad hm hr h0 o od (fU k f v) g sm9 s0 s1) (xRunV (n := 0) (As := []) (rest := []) ⟨hx, hb, hml, hown, hts⟩ (kX13_thrown l D cA hm _ N sm9 _ rfl) qco_X13_thrown qml_L_184 qin_X13_thrown qse_X13_thrown qini_X13 (by decide +kernel) (by rw [eR]; rfl) hK hP hD (mid 0 8) (LW_mC _ _ _ _ _ _ _ _ _ _ _ _) (mid_nd _ _) (q0 := 0) rfl rfl rfl rfl rfl hl.1 rfl (lv_room (Nat.le_of_ble_eq_true rfl)) dL_law_1423 ⟨by rw [eR]; show cells + 1 ≤ 603072; omega, by rw [eR]; show slots + 6 ≤ 7198826; omega⟩) hP hD hS hA (mid 0 8) (LW_mC _ _ _ _ _ _ _ _ _ _ _ _) rfl (LW_mH _ _ _ _ _ _ _ _ _ _ _ _ _) (fun H locs hP hD hS => ?_)
  refine lv_iload hx hb dL_law_1426 (lv_at hl 1 rfl) ?_
  refine lv_icmp_eq (tgt := 1433) hx hb dL_law_1428 (by decide) (fun _ => ?_) (fun c9 => absurd hth c9)
  refine lv_iload hx hb dL_law_1433 (lv_at hl 1 rfl) ?_
  refine lv_if_ne (tgt := 1449) hx hb dL_law_1435 (by decide) (fun c9 => ?_) (fun c9 => ?_)
  · refine lv_goto (tgt := 3247) hx hb dL_law_1449 (by decide) ?_
    refine W.widen (k := cells + 3) (n := slots + 18) (by omega) (by omega) ?_
    exact kk _ _ _ _ _ hI9 _ _ hP hD hS _ (lv_sub hl [2, 3, 4, 5, 6, 7] rfl)
  · have hk : k = 0 := Classical.byContradiction fun hk => lawC_nz hk (by decide) c9
    subst hk
    have hvv := hv rfl
    subst hvv
    refine lv_aload_n hx hb dL_law_1438 rfl (lv_at hl 4 rfl) ?_
    refine lv_iconst (v := 0) hx hb dL_law_1439 (by decide) ?_
    refine va_lald hx hb hK hP 8 2 rfl rfl (x_lit (n := 1) (k := 0) (by decide)).1 dL_law_1440 ?_
    rw [fU_0]
    refine lv_lload hx hb dL_law_1441 (lv_at hl 0 rfl) ?_
    refine W.lcmp hx hb dL_law_1443 ?_
    rw [lg_self]
    refine lv_if_eq (tgt := 1449) hx hb dL_law_1444 (by decide) (fun _ => ?_) (fun c9 => absurd rfl c9)
    refine lv_goto (tgt := 3247) hx hb dL_law_1449 (by decide) ?_
    refine W.widen (k := cells + 3) (n := slots + 18) (by omega) (by omega) ?_
    exact kk _ _ _ _ _ hI9 _ _ hP hD hS _ (lv_sub hl [2, 3, 4, 5, 6, 7] rfl)
set_option maxRecDepth 100000 in
set_option maxHeartbeats 4000000 in
theorem v_treeSize (C : LC p l R s m args c D cA ad A b L xs) (hN : 2000 ≤ N) (hi : i + 6 ≤ L) (hI : IV n s0 s1 sm) (hn : n + 1 ≤ 512) (hcl : cells + 3 ≤ 603072) (hsl : slots + 18 ≤ 7198826) (hP : va_P D vwCl (LW cA ad hm hr h0 o od f g sm s0 s1) H) (hD : va_D A (LW cA ad hm hr h0 o od f g sm s0 s1)) (hS : va_S A s.heap H locs) (hl : lv_has ls 9 [(5, .int (iI (i : Int))), (4, .ref od), (3, .ref o), (2, .ref (hm 0)), (1, .ref (h0 0)), (0, .ref b)])
    (kk : LK p l e R s m args below meth c cells slots Q D cA ad A b hm hr h0 o od i n) : W p l e R s m args below meth c H locs cells slots Q (F0 m 1452 ls []) := by
  obtain ⟨⟨hx, hb, hml, hown, hts⟩, hl9, eR, hN9, hE, hV, hX, hK, hA, hXs, hbl, hbA, hL9⟩ := C
  have hst := st_treeSize (t := s0) (r := s1) (s := sm) hN hI hn (xs (i + 1))
  obtain ⟨k, v, v9, sm9, hc9, hm9, hth, hq, hv, hI9⟩ := hst
  refine lv_aload_n hx hb dL_law_1452 rfl (lv_at hl 4 rfl) ?_
  refine lv_aload_n hx hb dL_law_1453 rfl (lv_at hl 5 rfl) ?_
  refine lv_iload hx hb dL_law_1454 (lv_at hl 0 rfl) ?_
  refine lv_iconst (v := 1) hx hb dL_law_1456 (by decide) ?_
  refine lv_iadd hx hb dL_law_1457 ?_
  refine vSld hx hb hXs hbl hbA hS (k := i + 1) (sIx1 hi hL9) dL_law_1458 ?_
  refine lv_aload_n hx hb dL_law_1459 rfl (lv_at hl 2 rfl) ?_
  refine hCall (w2 := LW cA ad hm hr h0 o od (fU k f v.toInt64) g sm s0 s1) (hRunS (n := 3) (As := [.ref (h0 0), .int (xs (i + 1)), .ref o]) (rest := []) ⟨hx, hb, hml, hown, hts⟩ (h_treeSize l hl9 D cA ad hr h0 o od _ N ((xs (i + 1))) f g s0 s1 k v hc9 hq) qcw_L_treeSize qml_L_254 qst_L_treeSize qini_L (by decide +kernel) (by rw [eR]; rfl) hN9 hE hV hX hS hA hK hP hD (mid 8 288) (LW_hC _ _ _ _ _ _ _ _ _ _ _ _) (mid_nd _ _) rfl rfl hl.1 rfl (lv_room (Nat.le_of_ble_eq_true rfl)) dL_law_1460 ⟨by rw [eR]; show cells + 1 ≤ 603072; omega, by rw [eR]; show slots + 6 ≤ 7198826; omega⟩) hP hD hS hA (mid 8 288) (LW_hC _ _ _ _ _ _ _ _ _ _ _ _) (HW_fst _ _ _ _ _ _ _ _ _ _ _ _ _ _) (LW_hH _ _ _ _ _ _ _ _ _ _ _ _ _ _ _ _) (fun H locs hP hD hS => ?_)
  refine lv_istore (lv' := [(6, .int (iI (lawC [1] k : Int))), (5, .int (iI (i : Int))), (4, .ref od), (3, .ref o), (2, .ref (hm 0)), (1, .ref (h0 0)), (0, .ref b)]) hx hb dL_law_1463 hl (by decide) rfl (fun ls hl => ?_)
  refine lv_aload_n hx hb dL_law_1465 rfl (lv_at hl 4 rfl) ?_
  refine lv_aload_n hx hb dL_law_1466 rfl (lv_at hl 6 rfl) ?_
  refine lv_iload hx hb dL_law_1467 (lv_at hl 1 rfl) ?_
  refine lv_iconst (v := 1) hx hb dL_law_1469 (by decide) ?_
  refine lv_iadd hx hb dL_law_1470 ?_
  refine vSld hx hb hXs hbl hbA hS (k := i + 1) (sIx1 hi hL9) dL_law_1471 ?_
  refine xCallH (w2 := LW cA ad hm hr h0 o od (fU k f v.toInt64) g sm9 s0 s1) (xRunV (n := 1) (As := [.int (xs (i + 1))]) (rest := []) ⟨hx, hb, hml, hown, hts⟩ (kX13_treeSize l D cA hm _ N ((xs (i + 1))) sm (v9, sm9) hm9) qco_X13_treeSize qml_L_256 qin_X13_treeSize qse_X13_treeSize qini_X13 (by decide +kernel) (by rw [eR]; rfl) hK hP hD (mid 0 8) (LW_mC _ _ _ _ _ _ _ _ _ _ _ _) (mid_nd _ _) (q0 := 0) rfl rfl rfl rfl rfl hl.1 rfl (lv_room (Nat.le_of_ble_eq_true rfl)) dL_law_1472 ⟨by rw [eR]; show cells + 1 ≤ 603072; omega, by rw [eR]; show slots + 6 ≤ 7198826; omega⟩) hP hD hS hA (mid 0 8) (LW_mC _ _ _ _ _ _ _ _ _ _ _ _) rfl (LW_mH _ _ _ _ _ _ _ _ _ _ _ _ _) (fun H locs hP hD hS => ?_)
  refine lv_istore (lv' := [(7, .int v9), (6, .int (iI (lawC [1] k : Int))), (5, .int (iI (i : Int))), (4, .ref od), (3, .ref o), (2, .ref (hm 0)), (1, .ref (h0 0)), (0, .ref b)]) hx hb dL_law_1475 hl (by decide) rfl (fun ls hl => ?_)
  refine lv_aload_n hx hb dL_law_1477 rfl (lv_at hl 5 rfl) ?_
  refine xCallH (w2 := LW cA ad hm hr h0 o od (fU k f v.toInt64) g sm9 s0 s1) (xRunV (n := 0) (As := []) (rest := []) ⟨hx, hb, hml, hown, hts⟩ (kX13_thrown l D cA hm _ N sm9 _ rfl) qco_X13_thrown qml_L_184 qin_X13_thrown qse_X13_thrown qini_X13 (by decide +kernel) (by rw [eR]; rfl) hK hP hD (mid 0 8) (LW_mC _ _ _ _ _ _ _ _ _ _ _ _) (mid_nd _ _) (q0 := 0) rfl rfl rfl rfl rfl hl.1 rfl (lv_room (Nat.le_of_ble_eq_true rfl)) dL_law_1478 ⟨by rw [eR]; show cells + 1 ≤ 603072; omega, by rw [eR]; show slots + 6 ≤ 7198826; omega⟩) hP hD hS hA (mid 0 8) (LW_mC _ _ _ _ _ _ _ _ _ _ _ _) rfl (LW_mH _ _ _ _ _ _ _ _ _ _ _ _ _) (fun H locs hP hD hS => ?_)
  refine lv_iload hx hb dL_law_1481 (lv_at hl 1 rfl) ?_
  refine lv_icmp_eq (tgt := 1488) hx hb dL_law_1483 (by decide) (fun _ => ?_) (fun c9 => absurd hth c9)
  refine lv_iload hx hb dL_law_1488 (lv_at hl 1 rfl) ?_
  refine lv_if_ne (tgt := 1505) hx hb dL_law_1490 (by decide) (fun c9 => ?_) (fun c9 => ?_)
  · refine lv_goto (tgt := 3247) hx hb dL_law_1505 (by decide) ?_
    refine W.widen (k := cells + 3) (n := slots + 18) (by omega) (by omega) ?_
    exact kk _ _ _ _ _ hI9 _ _ hP hD hS _ (lv_sub hl [2, 3, 4, 5, 6, 7] rfl)
  · have hk : k = 0 := Classical.byContradiction fun hk => lawC_nz hk (by decide) c9
    subst hk
    have hvv := hv rfl
    subst hvv
    refine lv_aload_n hx hb dL_law_1493 rfl (lv_at hl 4 rfl) ?_
    refine lv_iconst (v := 0) hx hb dL_law_1494 (by decide) ?_
    refine va_lald hx hb hK hP 8 2 rfl rfl (x_lit (n := 1) (k := 0) (by decide)).1 dL_law_1495 ?_
    rw [fU_0]
    refine lv_iload hx hb dL_law_1496 (lv_at hl 0 rfl) ?_
    refine lv_i2l (v := v.toInt64) hx hb dL_law_1498 rfl ?_
    refine W.lcmp hx hb dL_law_1499 ?_
    rw [lg_self]
    refine lv_if_eq (tgt := 1505) hx hb dL_law_1500 (by decide) (fun _ => ?_) (fun c9 => absurd rfl c9)
    refine lv_goto (tgt := 3247) hx hb dL_law_1505 (by decide) ?_
    refine W.widen (k := cells + 3) (n := slots + 18) (by omega) (by omega) ?_
    exact kk _ _ _ _ _ hI9 _ _ hP hD hS _ (lv_sub hl [2, 3, 4, 5, 6, 7] rfl)
set_option maxRecDepth 100000 in
set_option maxHeartbeats 4000000 in
theorem v_sumOfCredits (C : LC p l R s m args c D cA ad A b L xs) (hN : 2000 ≤ N) (hi : i + 6 ≤ L) (hI : IV n s0 s1 sm) (hn : n + 1 ≤ 512) (hcl : cells + 3 ≤ 603072) (hsl : slots + 18 ≤ 7198826) (hP : va_P D vwCl (LW cA ad hm hr h0 o od f g sm s0 s1) H) (hD : va_D A (LW cA ad hm hr h0 o od f g sm s0 s1)) (hS : va_S A s.heap H locs) (hl : lv_has ls 9 [(5, .int (iI (i : Int))), (4, .ref od), (3, .ref o), (2, .ref (hm 0)), (1, .ref (h0 0)), (0, .ref b)])
    (kk : LK p l e R s m args below meth c cells slots Q D cA ad A b hm hr h0 o od i n) : W p l e R s m args below meth c H locs cells slots Q (F0 m 1522 ls []) := by
  obtain ⟨⟨hx, hb, hml, hown, hts⟩, hl9, eR, hN9, hE, hV, hX, hK, hA, hXs, hbl, hbA, hL9⟩ := C
  have hst := st_sumOfCredits (t := s0) (r := s1) (s := sm) hN hI hn
  obtain ⟨v, sm9, hc9, hm9, hI9⟩ := hst
  refine lv_aload_n hx hb dL_law_1522 rfl (lv_at hl 4 rfl) ?_
  refine xCallH (w2 := LW cA ad hm hr h0 o od f g sm s0 s1) (zRunV (n := 0) (As := []) (rest := []) ⟨hx, hb, hml, hown, hts⟩ (kX12_sumOfCredits l D cA ad hr h0 _ N s0 v hc9) qco_X12_sumOfCredits qml_L_262 qin_X12_sumOfCredits qse_X12_sumOfCredits qini_X12 (by decide +kernel) (by rw [eR]; rfl) hN9 hE hS hA hK hP hD (mid 10 61) (LW_tC _ _ _ _ _ _ _ _ _ _ _ _) (mid_nd _ _) (q0 := 0) rfl rfl rfl rfl rfl hl.1 rfl (lv_room (Nat.le_of_ble_eq_true rfl)) dL_law_1523 ⟨by rw [eR]; show cells + 0 ≤ 603072; omega, by rw [eR]; show slots + 0 ≤ 7198826; omega⟩) hP hD hS hA (mid 10 61) (LW_tC _ _ _ _ _ _ _ _ _ _ _ _) rfl (LW_tH _ _ _ _ _ _ _ _ _ _ _ _ _) (fun H locs hP hD hS => ?_)
  refine lv_aload_n hx hb dL_law_1526 rfl (lv_at hl 3 rfl) ?_
  refine xCallH (w2 := LW cA ad hm hr h0 o od f g sm9 s0 s1) (xRunV (n := 0) (As := []) (rest := [.long v]) ⟨hx, hb, hml, hown, hts⟩ (kX13_sumOfCredits l D cA hm _ N sm (v, sm9) hm9) qco_X13_sumOfCredits qml_L_265 qin_X13_sumOfCredits qse_X13_sumOfCredits qini_X13 (by decide +kernel) (by rw [eR]; rfl) hK hP hD (mid 0 8) (LW_mC _ _ _ _ _ _ _ _ _ _ _ _) (mid_nd _ _) (q0 := 0) rfl rfl rfl rfl rfl hl.1 rfl (lv_room (Nat.le_of_ble_eq_true rfl)) dL_law_1527 ⟨by rw [eR]; show cells + 0 ≤ 603072; omega, by rw [eR]; show slots + 0 ≤ 7198826; omega⟩) hP hD hS hA (mid 0 8) (LW_mC _ _ _ _ _ _ _ _ _ _ _ _) rfl (LW_mH _ _ _ _ _ _ _ _ _ _ _ _ _) (fun H locs hP hD hS => ?_)
  refine W.lcmp hx hb dL_law_1530 ?_
  rw [lg_self]
  refine lv_if_eq (tgt := 3247) hx hb dL_law_1531 (by decide) (fun _ => ?_) (fun c9 => absurd rfl c9)
  refine W.widen (k := cells + 3) (n := slots + 18) (by omega) (by omega) ?_
  exact kk _ _ _ _ _ hI9 _ _ hP hD hS _ (lv_sub hl [0, 1, 2, 3, 4, 5] rfl)
set_option maxRecDepth 100000 in
set_option maxHeartbeats 4000000 in
theorem v_profit (C : LC p l R s m args c D cA ad A b L xs) (hN : 2000 ≤ N) (hi : i + 6 ≤ L) (hI : IV n s0 s1 sm) (hn : n + 1 ≤ 512) (hcl : cells + 3 ≤ 603072) (hsl : slots + 18 ≤ 7198826) (hP : va_P D vwCl (LW cA ad hm hr h0 o od f g sm s0 s1) H) (hD : va_D A (LW cA ad hm hr h0 o od f g sm s0 s1)) (hS : va_S A s.heap H locs) (hl : lv_has ls 9 [(5, .int (iI (i : Int))), (4, .ref od), (3, .ref o), (2, .ref (hm 0)), (1, .ref (h0 0)), (0, .ref b)])
    (kk : LK p l e R s m args below meth c cells slots Q D cA ad A b hm hr h0 o od i n) : W p l e R s m args below meth c H locs cells slots Q (F0 m 1536 ls []) := by
  obtain ⟨⟨hx, hb, hml, hown, hts⟩, hl9, eR, hN9, hE, hV, hX, hK, hA, hXs, hbl, hbA, hL9⟩ := C
  have hst := st_profit (t := s0) (r := s1) (s := sm) hN hI hn
  obtain ⟨v, sm9, hc9, hm9, hI9⟩ := hst
  refine lv_aload_n hx hb dL_law_1536 rfl (lv_at hl 4 rfl) ?_
  refine xCallH (w2 := LW cA ad hm hr h0 o od f g sm s0 s1) (zRunV (n := 0) (As := []) (rest := []) ⟨hx, hb, hml, hown, hts⟩ (kX12_profit l D cA ad hr h0 _ N s0 v hc9) qco_X12_profit qml_L_266 qin_X12_profit qse_X12_profit qini_X12 (by decide +kernel) (by rw [eR]; rfl) hN9 hE hS hA hK hP hD (mid 10 61) (LW_tC _ _ _ _ _ _ _ _ _ _ _ _) (mid_nd _ _) (q0 := 0) rfl rfl rfl rfl rfl hl.1 rfl (lv_room (Nat.le_of_ble_eq_true rfl)) dL_law_1537 ⟨by rw [eR]; show cells + 0 ≤ 603072; omega, by rw [eR]; show slots + 0 ≤ 7198826; omega⟩) hP hD hS hA (mid 10 61) (LW_tC _ _ _ _ _ _ _ _ _ _ _ _) rfl (LW_tH _ _ _ _ _ _ _ _ _ _ _ _ _) (fun H locs hP hD hS => ?_)
  refine lv_aload_n hx hb dL_law_1540 rfl (lv_at hl 3 rfl) ?_
  refine xCallH (w2 := LW cA ad hm hr h0 o od f g sm9 s0 s1) (xRunV (n := 0) (As := []) (rest := [.long v]) ⟨hx, hb, hml, hown, hts⟩ (kX13_profit l D cA hm _ N sm (v, sm9) hm9) qco_X13_profit qml_L_269 qin_X13_profit qse_X13_profit qini_X13 (by decide +kernel) (by rw [eR]; rfl) hK hP hD (mid 0 8) (LW_mC _ _ _ _ _ _ _ _ _ _ _ _) (mid_nd _ _) (q0 := 0) rfl rfl rfl rfl rfl hl.1 rfl (lv_room (Nat.le_of_ble_eq_true rfl)) dL_law_1541 ⟨by rw [eR]; show cells + 0 ≤ 603072; omega, by rw [eR]; show slots + 0 ≤ 7198826; omega⟩) hP hD hS hA (mid 0 8) (LW_mC _ _ _ _ _ _ _ _ _ _ _ _) rfl (LW_mH _ _ _ _ _ _ _ _ _ _ _ _ _) (fun H locs hP hD hS => ?_)
  refine W.lcmp hx hb dL_law_1544 ?_
  rw [lg_self]
  refine lv_if_eq (tgt := 3247) hx hb dL_law_1545 (by decide) (fun _ => ?_) (fun c9 => absurd rfl c9)
  refine W.widen (k := cells + 3) (n := slots + 18) (by omega) (by omega) ?_
  exact kk _ _ _ _ _ hI9 _ _ hP hD hS _ (lv_sub hl [0, 1, 2, 3, 4, 5] rfl)
set_option maxRecDepth 100000 in
set_option maxHeartbeats 4000000 in
theorem v_entryCount (C : LC p l R s m args c D cA ad A b L xs) (hN : 2000 ≤ N) (hi : i + 6 ≤ L) (hI : IV n s0 s1 sm) (hn : n + 1 ≤ 512) (hcl : cells + 3 ≤ 603072) (hsl : slots + 18 ≤ 7198826) (hP : va_P D vwCl (LW cA ad hm hr h0 o od f g sm s0 s1) H) (hD : va_D A (LW cA ad hm hr h0 o od f g sm s0 s1)) (hS : va_S A s.heap H locs) (hl : lv_has ls 9 [(5, .int (iI (i : Int))), (4, .ref od), (3, .ref o), (2, .ref (hm 0)), (1, .ref (h0 0)), (0, .ref b)])
    (kk : LK p l e R s m args below meth c cells slots Q D cA ad A b hm hr h0 o od i n) : W p l e R s m args below meth c H locs cells slots Q (F0 m 1550 ls []) := by
  obtain ⟨⟨hx, hb, hml, hown, hts⟩, hl9, eR, hN9, hE, hV, hX, hK, hA, hXs, hbl, hbA, hL9⟩ := C
  have hst := st_entryCount (t := s0) (r := s1) (s := sm) hN hI hn
  obtain ⟨v, sm9, hc9, hm9, hI9⟩ := hst
  refine lv_aload_n hx hb dL_law_1550 rfl (lv_at hl 4 rfl) ?_
  refine xCallH (w2 := LW cA ad hm hr h0 o od f g sm s0 s1) (zRunV (n := 0) (As := []) (rest := []) ⟨hx, hb, hml, hown, hts⟩ (kX12_entryCount l D cA ad hr h0 _ N s0 v hc9) qco_X12_entryCount qml_L_270 qin_X12_entryCount qse_X12_entryCount qini_X12 (by decide +kernel) (by rw [eR]; rfl) hN9 hE hS hA hK hP hD (mid 10 61) (LW_tC _ _ _ _ _ _ _ _ _ _ _ _) (mid_nd _ _) (q0 := 0) rfl rfl rfl rfl rfl hl.1 rfl (lv_room (Nat.le_of_ble_eq_true rfl)) dL_law_1551 ⟨by rw [eR]; show cells + 0 ≤ 603072; omega, by rw [eR]; show slots + 0 ≤ 7198826; omega⟩) hP hD hS hA (mid 10 61) (LW_tC _ _ _ _ _ _ _ _ _ _ _ _) rfl (LW_tH _ _ _ _ _ _ _ _ _ _ _ _ _) (fun H locs hP hD hS => ?_)
  refine lv_aload_n hx hb dL_law_1554 rfl (lv_at hl 3 rfl) ?_
  refine xCallH (w2 := LW cA ad hm hr h0 o od f g sm9 s0 s1) (xRunV (n := 0) (As := []) (rest := [.int v]) ⟨hx, hb, hml, hown, hts⟩ (kX13_entryCount l D cA hm _ N sm (v, sm9) hm9) qco_X13_entryCount qml_L_273 qin_X13_entryCount qse_X13_entryCount qini_X13 (by decide +kernel) (by rw [eR]; rfl) hK hP hD (mid 0 8) (LW_mC _ _ _ _ _ _ _ _ _ _ _ _) (mid_nd _ _) (q0 := 0) rfl rfl rfl rfl rfl hl.1 rfl (lv_room (Nat.le_of_ble_eq_true rfl)) dL_law_1555 ⟨by rw [eR]; show cells + 0 ≤ 603072; omega, by rw [eR]; show slots + 0 ≤ 7198826; omega⟩) hP hD hS hA (mid 0 8) (LW_mC _ _ _ _ _ _ _ _ _ _ _ _) rfl (LW_mH _ _ _ _ _ _ _ _ _ _ _ _ _) (fun H locs hP hD hS => ?_)
  refine lv_icmp_eq (tgt := 3247) hx hb dL_law_1558 (by decide) (fun _ => ?_) (fun c9 => absurd rfl c9)
  refine W.widen (k := cells + 3) (n := slots + 18) (by omega) (by omega) ?_
  exact kk _ _ _ _ _ hI9 _ _ hP hD hS _ (lv_sub hl [0, 1, 2, 3, 4, 5] rfl)
set_option maxRecDepth 100000 in
set_option maxHeartbeats 4000000 in
theorem v_entryAt (C : LC p l R s m args c D cA ad A b L xs) (hN : 2000 ≤ N) (hi : i + 6 ≤ L) (hI : IV n s0 s1 sm) (hn : n + 1 ≤ 512) (hcl : cells + 3 ≤ 603072) (hsl : slots + 18 ≤ 7198826) (hP : va_P D vwCl (LW cA ad hm hr h0 o od f g sm s0 s1) H) (hD : va_D A (LW cA ad hm hr h0 o od f g sm s0 s1)) (hS : va_S A s.heap H locs) (hl : lv_has ls 9 [(5, .int (iI (i : Int))), (4, .ref od), (3, .ref o), (2, .ref (hm 0)), (1, .ref (h0 0)), (0, .ref b)])
    (kk : LK p l e R s m args below meth c cells slots Q D cA ad A b hm hr h0 o od i n) : W p l e R s m args below meth c H locs cells slots Q (F0 m 1563 ls []) := by
  obtain ⟨⟨hx, hb, hml, hown, hts⟩, hl9, eR, hN9, hE, hV, hX, hK, hA, hXs, hbl, hbA, hL9⟩ := C
  have hst := st_entryAt (t := s0) (r := s1) (s := sm) hN hI hn (xs (i + 1))
  obtain ⟨k, v, v9, sm9, hc9, hm9, hth, hq, hv, hI9⟩ := hst
  refine lv_aload_n hx hb dL_law_1563 rfl (lv_at hl 4 rfl) ?_
  refine lv_aload_n hx hb dL_law_1564 rfl (lv_at hl 5 rfl) ?_
  refine lv_iload hx hb dL_law_1565 (lv_at hl 0 rfl) ?_
  refine lv_iconst (v := 1) hx hb dL_law_1567 (by decide) ?_
  refine lv_iadd hx hb dL_law_1568 ?_
  refine vSld hx hb hXs hbl hbA hS (k := i + 1) (sIx1 hi hL9) dL_law_1569 ?_
  refine lv_aload_n hx hb dL_law_1570 rfl (lv_at hl 2 rfl) ?_
  refine hCall (w2 := LW cA ad hm hr h0 o od (fU k f v.toInt64) g sm s0 s1) (hRunS (n := 3) (As := [.ref (h0 0), .int (xs (i + 1)), .ref o]) (rest := []) ⟨hx, hb, hml, hown, hts⟩ (h_entryAt l hl9 D cA ad hr h0 o od _ N ((xs (i + 1))) f g s0 s1 k v hc9 hq) qcw_L_entryAt qml_L_274 qst_L_entryAt qini_L (by decide +kernel) (by rw [eR]; rfl) hN9 hE hV hX hS hA hK hP hD (mid 8 288) (LW_hC _ _ _ _ _ _ _ _ _ _ _ _) (mid_nd _ _) rfl rfl hl.1 rfl (lv_room (Nat.le_of_ble_eq_true rfl)) dL_law_1571 ⟨by rw [eR]; show cells + 1 ≤ 603072; omega, by rw [eR]; show slots + 6 ≤ 7198826; omega⟩) hP hD hS hA (mid 8 288) (LW_hC _ _ _ _ _ _ _ _ _ _ _ _) (HW_fst _ _ _ _ _ _ _ _ _ _ _ _ _ _) (LW_hH _ _ _ _ _ _ _ _ _ _ _ _ _ _ _ _) (fun H locs hP hD hS => ?_)
  refine lv_istore (lv' := [(6, .int (iI (lawC [2] k : Int))), (5, .int (iI (i : Int))), (4, .ref od), (3, .ref o), (2, .ref (hm 0)), (1, .ref (h0 0)), (0, .ref b)]) hx hb dL_law_1574 hl (by decide) rfl (fun ls hl => ?_)
  refine lv_aload_n hx hb dL_law_1576 rfl (lv_at hl 4 rfl) ?_
  refine lv_aload_n hx hb dL_law_1577 rfl (lv_at hl 6 rfl) ?_
  refine lv_iload hx hb dL_law_1578 (lv_at hl 1 rfl) ?_
  refine lv_iconst (v := 1) hx hb dL_law_1580 (by decide) ?_
  refine lv_iadd hx hb dL_law_1581 ?_
  refine vSld hx hb hXs hbl hbA hS (k := i + 1) (sIx1 hi hL9) dL_law_1582 ?_
  refine xCallH (w2 := LW cA ad hm hr h0 o od (fU k f v.toInt64) g sm9 s0 s1) (xRunV (n := 1) (As := [.int (xs (i + 1))]) (rest := []) ⟨hx, hb, hml, hown, hts⟩ (kX13_entryAt l D cA hm _ N ((xs (i + 1))) sm (v9, sm9) hm9) qco_X13_entryAt qml_L_276 qin_X13_entryAt qse_X13_entryAt qini_X13 (by decide +kernel) (by rw [eR]; rfl) hK hP hD (mid 0 8) (LW_mC _ _ _ _ _ _ _ _ _ _ _ _) (mid_nd _ _) (q0 := 0) rfl rfl rfl rfl rfl hl.1 rfl (lv_room (Nat.le_of_ble_eq_true rfl)) dL_law_1583 ⟨by rw [eR]; show cells + 1 ≤ 603072; omega, by rw [eR]; show slots + 6 ≤ 7198826; omega⟩) hP hD hS hA (mid 0 8) (LW_mC _ _ _ _ _ _ _ _ _ _ _ _) rfl (LW_mH _ _ _ _ _ _ _ _ _ _ _ _ _) (fun H locs hP hD hS => ?_)
  refine lv_istore (lv' := [(7, .int v9), (6, .int (iI (lawC [2] k : Int))), (5, .int (iI (i : Int))), (4, .ref od), (3, .ref o), (2, .ref (hm 0)), (1, .ref (h0 0)), (0, .ref b)]) hx hb dL_law_1586 hl (by decide) rfl (fun ls hl => ?_)
  refine lv_aload_n hx hb dL_law_1588 rfl (lv_at hl 5 rfl) ?_
  refine xCallH (w2 := LW cA ad hm hr h0 o od (fU k f v.toInt64) g sm9 s0 s1) (xRunV (n := 0) (As := []) (rest := []) ⟨hx, hb, hml, hown, hts⟩ (kX13_thrown l D cA hm _ N sm9 _ rfl) qco_X13_thrown qml_L_184 qin_X13_thrown qse_X13_thrown qini_X13 (by decide +kernel) (by rw [eR]; rfl) hK hP hD (mid 0 8) (LW_mC _ _ _ _ _ _ _ _ _ _ _ _) (mid_nd _ _) (q0 := 0) rfl rfl rfl rfl rfl hl.1 rfl (lv_room (Nat.le_of_ble_eq_true rfl)) dL_law_1589 ⟨by rw [eR]; show cells + 1 ≤ 603072; omega, by rw [eR]; show slots + 6 ≤ 7198826; omega⟩) hP hD hS hA (mid 0 8) (LW_mC _ _ _ _ _ _ _ _ _ _ _ _) rfl (LW_mH _ _ _ _ _ _ _ _ _ _ _ _ _) (fun H locs hP hD hS => ?_)
  refine lv_iload hx hb dL_law_1592 (lv_at hl 1 rfl) ?_
  refine lv_icmp_eq (tgt := 1599) hx hb dL_law_1594 (by decide) (fun _ => ?_) (fun c9 => absurd hth c9)
  refine lv_iload hx hb dL_law_1599 (lv_at hl 1 rfl) ?_
  refine lv_if_ne (tgt := 1616) hx hb dL_law_1601 (by decide) (fun c9 => ?_) (fun c9 => ?_)
  · refine lv_goto (tgt := 3247) hx hb dL_law_1616 (by decide) ?_
    refine W.widen (k := cells + 3) (n := slots + 18) (by omega) (by omega) ?_
    exact kk _ _ _ _ _ hI9 _ _ hP hD hS _ (lv_sub hl [2, 3, 4, 5, 6, 7] rfl)
  · have hk : k = 0 := Classical.byContradiction fun hk => lawC_nz hk (by decide) c9
    subst hk
    have hvv := hv rfl
    subst hvv
    refine lv_aload_n hx hb dL_law_1604 rfl (lv_at hl 4 rfl) ?_
    refine lv_iconst (v := 0) hx hb dL_law_1605 (by decide) ?_
    refine va_lald hx hb hK hP 8 2 rfl rfl (x_lit (n := 1) (k := 0) (by decide)).1 dL_law_1606 ?_
    rw [fU_0]
    refine lv_iload hx hb dL_law_1607 (lv_at hl 0 rfl) ?_
    refine lv_i2l (v := v.toInt64) hx hb dL_law_1609 rfl ?_
    refine W.lcmp hx hb dL_law_1610 ?_
    rw [lg_self]
    refine lv_if_eq (tgt := 1616) hx hb dL_law_1611 (by decide) (fun _ => ?_) (fun c9 => absurd rfl c9)
    refine lv_goto (tgt := 3247) hx hb dL_law_1616 (by decide) ?_
    refine W.widen (k := cells + 3) (n := slots + 18) (by omega) (by omega) ?_
    exact kk _ _ _ _ _ hI9 _ _ hP hD hS _ (lv_sub hl [2, 3, 4, 5, 6, 7] rfl)
set_option maxRecDepth 100000 in
set_option maxHeartbeats 4000000 in
theorem v_debitOf (C : LC p l R s m args c D cA ad A b L xs) (hN : 2000 ≤ N) (hi : i + 6 ≤ L) (hI : IV n s0 s1 sm) (hn : n + 1 ≤ 512) (hcl : cells + 3 ≤ 603072) (hsl : slots + 18 ≤ 7198826) (hP : va_P D vwCl (LW cA ad hm hr h0 o od f g sm s0 s1) H) (hD : va_D A (LW cA ad hm hr h0 o od f g sm s0 s1)) (hS : va_S A s.heap H locs) (hl : lv_has ls 9 [(5, .int (iI (i : Int))), (4, .ref od), (3, .ref o), (2, .ref (hm 0)), (1, .ref (h0 0)), (0, .ref b)])
    (kk : LK p l e R s m args below meth c cells slots Q D cA ad A b hm hr h0 o od i n) : W p l e R s m args below meth c H locs cells slots Q (F0 m 1619 ls []) := by
  obtain ⟨⟨hx, hb, hml, hown, hts⟩, hl9, eR, hN9, hE, hV, hX, hK, hA, hXs, hbl, hbA, hL9⟩ := C
  have hst := st_debitOf (t := s0) (r := s1) (s := sm) hN hI hn (xs (i + 1))
  obtain ⟨k, v, v9, sm9, hc9, hm9, hth, hq, hv, hI9⟩ := hst
  refine lv_aload_n hx hb dL_law_1619 rfl (lv_at hl 4 rfl) ?_
  refine lv_aload_n hx hb dL_law_1620 rfl (lv_at hl 5 rfl) ?_
  refine lv_iload hx hb dL_law_1621 (lv_at hl 0 rfl) ?_
  refine lv_iconst (v := 1) hx hb dL_law_1623 (by decide) ?_
  refine lv_iadd hx hb dL_law_1624 ?_
  refine vSld hx hb hXs hbl hbA hS (k := i + 1) (sIx1 hi hL9) dL_law_1625 ?_
  refine lv_aload_n hx hb dL_law_1626 rfl (lv_at hl 2 rfl) ?_
  refine hCall (w2 := LW cA ad hm hr h0 o od (fU k f v.toInt64) g sm s0 s1) (hRunS (n := 3) (As := [.ref (h0 0), .int (xs (i + 1)), .ref o]) (rest := []) ⟨hx, hb, hml, hown, hts⟩ (h_debitOf l hl9 D cA ad hr h0 o od _ N ((xs (i + 1))) f g s0 s1 k v hc9 hq) qcw_L_debitOf qml_L_277 qst_L_debitOf qini_L (by decide +kernel) (by rw [eR]; rfl) hN9 hE hV hX hS hA hK hP hD (mid 8 288) (LW_hC _ _ _ _ _ _ _ _ _ _ _ _) (mid_nd _ _) rfl rfl hl.1 rfl (lv_room (Nat.le_of_ble_eq_true rfl)) dL_law_1627 ⟨by rw [eR]; show cells + 1 ≤ 603072; omega, by rw [eR]; show slots + 6 ≤ 7198826; omega⟩) hP hD hS hA (mid 8 288) (LW_hC _ _ _ _ _ _ _ _ _ _ _ _) (HW_fst _ _ _ _ _ _ _ _ _ _ _ _ _ _) (LW_hH _ _ _ _ _ _ _ _ _ _ _ _ _ _ _ _) (fun H locs hP hD hS => ?_)
  refine lv_istore (lv' := [(6, .int (iI (lawC [2] k : Int))), (5, .int (iI (i : Int))), (4, .ref od), (3, .ref o), (2, .ref (hm 0)), (1, .ref (h0 0)), (0, .ref b)]) hx hb dL_law_1630 hl (by decide) rfl (fun ls hl => ?_)
  refine lv_aload_n hx hb dL_law_1632 rfl (lv_at hl 4 rfl) ?_
  refine lv_aload_n hx hb dL_law_1633 rfl (lv_at hl 6 rfl) ?_
  refine lv_iload hx hb dL_law_1634 (lv_at hl 1 rfl) ?_
  refine lv_iconst (v := 1) hx hb dL_law_1636 (by decide) ?_
  refine lv_iadd hx hb dL_law_1637 ?_
  refine vSld hx hb hXs hbl hbA hS (k := i + 1) (sIx1 hi hL9) dL_law_1638 ?_
  refine xCallH (w2 := LW cA ad hm hr h0 o od (fU k f v.toInt64) g sm9 s0 s1) (xRunV (n := 1) (As := [.int (xs (i + 1))]) (rest := []) ⟨hx, hb, hml, hown, hts⟩ (kX13_debitOf l D cA hm _ N ((xs (i + 1))) sm (v9, sm9) hm9) qco_X13_debitOf qml_L_279 qin_X13_debitOf qse_X13_debitOf qini_X13 (by decide +kernel) (by rw [eR]; rfl) hK hP hD (mid 0 8) (LW_mC _ _ _ _ _ _ _ _ _ _ _ _) (mid_nd _ _) (q0 := 0) rfl rfl rfl rfl rfl hl.1 rfl (lv_room (Nat.le_of_ble_eq_true rfl)) dL_law_1639 ⟨by rw [eR]; show cells + 1 ≤ 603072; omega, by rw [eR]; show slots + 6 ≤ 7198826; omega⟩) hP hD hS hA (mid 0 8) (LW_mC _ _ _ _ _ _ _ _ _ _ _ _) rfl (LW_mH _ _ _ _ _ _ _ _ _ _ _ _ _) (fun H locs hP hD hS => ?_)
  refine lv_istore (lv' := [(7, .int v9), (6, .int (iI (lawC [2] k : Int))), (5, .int (iI (i : Int))), (4, .ref od), (3, .ref o), (2, .ref (hm 0)), (1, .ref (h0 0)), (0, .ref b)]) hx hb dL_law_1642 hl (by decide) rfl (fun ls hl => ?_)
  refine lv_aload_n hx hb dL_law_1644 rfl (lv_at hl 5 rfl) ?_
  refine xCallH (w2 := LW cA ad hm hr h0 o od (fU k f v.toInt64) g sm9 s0 s1) (xRunV (n := 0) (As := []) (rest := []) ⟨hx, hb, hml, hown, hts⟩ (kX13_thrown l D cA hm _ N sm9 _ rfl) qco_X13_thrown qml_L_184 qin_X13_thrown qse_X13_thrown qini_X13 (by decide +kernel) (by rw [eR]; rfl) hK hP hD (mid 0 8) (LW_mC _ _ _ _ _ _ _ _ _ _ _ _) (mid_nd _ _) (q0 := 0) rfl rfl rfl rfl rfl hl.1 rfl (lv_room (Nat.le_of_ble_eq_true rfl)) dL_law_1645 ⟨by rw [eR]; show cells + 1 ≤ 603072; omega, by rw [eR]; show slots + 6 ≤ 7198826; omega⟩) hP hD hS hA (mid 0 8) (LW_mC _ _ _ _ _ _ _ _ _ _ _ _) rfl (LW_mH _ _ _ _ _ _ _ _ _ _ _ _ _) (fun H locs hP hD hS => ?_)
  refine lv_iload hx hb dL_law_1648 (lv_at hl 1 rfl) ?_
  refine lv_icmp_eq (tgt := 1655) hx hb dL_law_1650 (by decide) (fun _ => ?_) (fun c9 => absurd hth c9)
  refine lv_iload hx hb dL_law_1655 (lv_at hl 1 rfl) ?_
  refine lv_if_ne (tgt := 1672) hx hb dL_law_1657 (by decide) (fun c9 => ?_) (fun c9 => ?_)
  · refine lv_goto (tgt := 3247) hx hb dL_law_1672 (by decide) ?_
    refine W.widen (k := cells + 3) (n := slots + 18) (by omega) (by omega) ?_
    exact kk _ _ _ _ _ hI9 _ _ hP hD hS _ (lv_sub hl [2, 3, 4, 5, 6, 7] rfl)
  · have hk : k = 0 := Classical.byContradiction fun hk => lawC_nz hk (by decide) c9
    subst hk
    have hvv := hv rfl
    subst hvv
    refine lv_aload_n hx hb dL_law_1660 rfl (lv_at hl 4 rfl) ?_
    refine lv_iconst (v := 0) hx hb dL_law_1661 (by decide) ?_
    refine va_lald hx hb hK hP 8 2 rfl rfl (x_lit (n := 1) (k := 0) (by decide)).1 dL_law_1662 ?_
    rw [fU_0]
    refine lv_iload hx hb dL_law_1663 (lv_at hl 0 rfl) ?_
    refine lv_i2l (v := v.toInt64) hx hb dL_law_1665 rfl ?_
    refine W.lcmp hx hb dL_law_1666 ?_
    rw [lg_self]
    refine lv_if_eq (tgt := 1672) hx hb dL_law_1667 (by decide) (fun _ => ?_) (fun c9 => absurd rfl c9)
    refine lv_goto (tgt := 3247) hx hb dL_law_1672 (by decide) ?_
    refine W.widen (k := cells + 3) (n := slots + 18) (by omega) (by omega) ?_
    exact kk _ _ _ _ _ hI9 _ _ hP hD hS _ (lv_sub hl [2, 3, 4, 5, 6, 7] rfl)
set_option maxRecDepth 100000 in
set_option maxHeartbeats 4000000 in
theorem v_creditOf (C : LC p l R s m args c D cA ad A b L xs) (hN : 2000 ≤ N) (hi : i + 6 ≤ L) (hI : IV n s0 s1 sm) (hn : n + 1 ≤ 512) (hcl : cells + 3 ≤ 603072) (hsl : slots + 18 ≤ 7198826) (hP : va_P D vwCl (LW cA ad hm hr h0 o od f g sm s0 s1) H) (hD : va_D A (LW cA ad hm hr h0 o od f g sm s0 s1)) (hS : va_S A s.heap H locs) (hl : lv_has ls 9 [(5, .int (iI (i : Int))), (4, .ref od), (3, .ref o), (2, .ref (hm 0)), (1, .ref (h0 0)), (0, .ref b)])
    (kk : LK p l e R s m args below meth c cells slots Q D cA ad A b hm hr h0 o od i n) : W p l e R s m args below meth c H locs cells slots Q (F0 m 1675 ls []) := by
  obtain ⟨⟨hx, hb, hml, hown, hts⟩, hl9, eR, hN9, hE, hV, hX, hK, hA, hXs, hbl, hbA, hL9⟩ := C
  have hst := st_creditOf (t := s0) (r := s1) (s := sm) hN hI hn (xs (i + 1))
  obtain ⟨k, v, v9, sm9, hc9, hm9, hth, hq, hv, hI9⟩ := hst
  refine lv_aload_n hx hb dL_law_1675 rfl (lv_at hl 4 rfl) ?_
  refine lv_aload_n hx hb dL_law_1676 rfl (lv_at hl 5 rfl) ?_
  refine lv_iload hx hb dL_law_1677 (lv_at hl 0 rfl) ?_
  refine lv_iconst (v := 1) hx hb dL_law_1679 (by decide) ?_
  refine lv_iadd hx hb dL_law_1680 ?_
  refine vSld hx hb hXs hbl hbA hS (k := i + 1) (sIx1 hi hL9) dL_law_1681 ?_
  refine lv_aload_n hx hb dL_law_1682 rfl (lv_at hl 2 rfl) ?_
  refine hCall (w2 := LW cA ad hm hr h0 o od (fU k f v.toInt64) g sm s0 s1) (hRunS (n := 3) (As := [.ref (h0 0), .int (xs (i + 1)), .ref o]) (rest := []) ⟨hx, hb, hml, hown, hts⟩ (h_creditOf l hl9 D cA ad hr h0 o od _ N ((xs (i + 1))) f g s0 s1 k v hc9 hq) qcw_L_creditOf qml_L_280 qst_L_creditOf qini_L (by decide +kernel) (by rw [eR]; rfl) hN9 hE hV hX hS hA hK hP hD (mid 8 288) (LW_hC _ _ _ _ _ _ _ _ _ _ _ _) (mid_nd _ _) rfl rfl hl.1 rfl (lv_room (Nat.le_of_ble_eq_true rfl)) dL_law_1683 ⟨by rw [eR]; show cells + 1 ≤ 603072; omega, by rw [eR]; show slots + 6 ≤ 7198826; omega⟩) hP hD hS hA (mid 8 288) (LW_hC _ _ _ _ _ _ _ _ _ _ _ _) (HW_fst _ _ _ _ _ _ _ _ _ _ _ _ _ _) (LW_hH _ _ _ _ _ _ _ _ _ _ _ _ _ _ _ _) (fun H locs hP hD hS => ?_)
  refine lv_istore (lv' := [(6, .int (iI (lawC [2] k : Int))), (5, .int (iI (i : Int))), (4, .ref od), (3, .ref o), (2, .ref (hm 0)), (1, .ref (h0 0)), (0, .ref b)]) hx hb dL_law_1686 hl (by decide) rfl (fun ls hl => ?_)
  refine lv_aload_n hx hb dL_law_1688 rfl (lv_at hl 4 rfl) ?_
  refine lv_aload_n hx hb dL_law_1689 rfl (lv_at hl 6 rfl) ?_
  refine lv_iload hx hb dL_law_1690 (lv_at hl 1 rfl) ?_
  refine lv_iconst (v := 1) hx hb dL_law_1692 (by decide) ?_
  refine lv_iadd hx hb dL_law_1693 ?_
  refine vSld hx hb hXs hbl hbA hS (k := i + 1) (sIx1 hi hL9) dL_law_1694 ?_
  refine xCallH (w2 := LW cA ad hm hr h0 o od (fU k f v.toInt64) g sm9 s0 s1) (xRunV (n := 1) (As := [.int (xs (i + 1))]) (rest := []) ⟨hx, hb, hml, hown, hts⟩ (kX13_creditOf l D cA hm _ N ((xs (i + 1))) sm (v9, sm9) hm9) qco_X13_creditOf qml_L_282 qin_X13_creditOf qse_X13_creditOf qini_X13 (by decide +kernel) (by rw [eR]; rfl) hK hP hD (mid 0 8) (LW_mC _ _ _ _ _ _ _ _ _ _ _ _) (mid_nd _ _) (q0 := 0) rfl rfl rfl rfl rfl hl.1 rfl (lv_room (Nat.le_of_ble_eq_true rfl)) dL_law_1695 ⟨by rw [eR]; show cells + 1 ≤ 603072; omega, by rw [eR]; show slots + 6 ≤ 7198826; omega⟩) hP hD hS hA (mid 0 8) (LW_mC _ _ _ _ _ _ _ _ _ _ _ _) rfl (LW_mH _ _ _ _ _ _ _ _ _ _ _ _ _) (fun H locs hP hD hS => ?_)
  refine lv_istore (lv' := [(7, .int v9), (6, .int (iI (lawC [2] k : Int))), (5, .int (iI (i : Int))), (4, .ref od), (3, .ref o), (2, .ref (hm 0)), (1, .ref (h0 0)), (0, .ref b)]) hx hb dL_law_1698 hl (by decide) rfl (fun ls hl => ?_)
  refine lv_aload_n hx hb dL_law_1700 rfl (lv_at hl 5 rfl) ?_
  refine xCallH (w2 := LW cA ad hm hr h0 o od (fU k f v.toInt64) g sm9 s0 s1) (xRunV (n := 0) (As := []) (rest := []) ⟨hx, hb, hml, hown, hts⟩ (kX13_thrown l D cA hm _ N sm9 _ rfl) qco_X13_thrown qml_L_184 qin_X13_thrown qse_X13_thrown qini_X13 (by decide +kernel) (by rw [eR]; rfl) hK hP hD (mid 0 8) (LW_mC _ _ _ _ _ _ _ _ _ _ _ _) (mid_nd _ _) (q0 := 0) rfl rfl rfl rfl rfl hl.1 rfl (lv_room (Nat.le_of_ble_eq_true rfl)) dL_law_1701 ⟨by rw [eR]; show cells + 1 ≤ 603072; omega, by rw [eR]; show slots + 6 ≤ 7198826; omega⟩) hP hD hS hA (mid 0 8) (LW_mC _ _ _ _ _ _ _ _ _ _ _ _) rfl (LW_mH _ _ _ _ _ _ _ _ _ _ _ _ _) (fun H locs hP hD hS => ?_)
  refine lv_iload hx hb dL_law_1704 (lv_at hl 1 rfl) ?_
  refine lv_icmp_eq (tgt := 1711) hx hb dL_law_1706 (by decide) (fun _ => ?_) (fun c9 => absurd hth c9)
  refine lv_iload hx hb dL_law_1711 (lv_at hl 1 rfl) ?_
  refine lv_if_ne (tgt := 1728) hx hb dL_law_1713 (by decide) (fun c9 => ?_) (fun c9 => ?_)
  · refine lv_goto (tgt := 3247) hx hb dL_law_1728 (by decide) ?_
    refine W.widen (k := cells + 3) (n := slots + 18) (by omega) (by omega) ?_
    exact kk _ _ _ _ _ hI9 _ _ hP hD hS _ (lv_sub hl [2, 3, 4, 5, 6, 7] rfl)
  · have hk : k = 0 := Classical.byContradiction fun hk => lawC_nz hk (by decide) c9
    subst hk
    have hvv := hv rfl
    subst hvv
    refine lv_aload_n hx hb dL_law_1716 rfl (lv_at hl 4 rfl) ?_
    refine lv_iconst (v := 0) hx hb dL_law_1717 (by decide) ?_
    refine va_lald hx hb hK hP 8 2 rfl rfl (x_lit (n := 1) (k := 0) (by decide)).1 dL_law_1718 ?_
    rw [fU_0]
    refine lv_iload hx hb dL_law_1719 (lv_at hl 0 rfl) ?_
    refine lv_i2l (v := v.toInt64) hx hb dL_law_1721 rfl ?_
    refine W.lcmp hx hb dL_law_1722 ?_
    rw [lg_self]
    refine lv_if_eq (tgt := 1728) hx hb dL_law_1723 (by decide) (fun _ => ?_) (fun c9 => absurd rfl c9)
    refine lv_goto (tgt := 3247) hx hb dL_law_1728 (by decide) ?_
    refine W.widen (k := cells + 3) (n := slots + 18) (by omega) (by omega) ?_
    exact kk _ _ _ _ _ hI9 _ _ hP hD hS _ (lv_sub hl [2, 3, 4, 5, 6, 7] rfl)
set_option maxRecDepth 100000 in
set_option maxHeartbeats 4000000 in
theorem v_amountOf (C : LC p l R s m args c D cA ad A b L xs) (hN : 2000 ≤ N) (hi : i + 6 ≤ L) (hI : IV n s0 s1 sm) (hn : n + 1 ≤ 512) (hcl : cells + 3 ≤ 603072) (hsl : slots + 18 ≤ 7198826) (hP : va_P D vwCl (LW cA ad hm hr h0 o od f g sm s0 s1) H) (hD : va_D A (LW cA ad hm hr h0 o od f g sm s0 s1)) (hS : va_S A s.heap H locs) (hl : lv_has ls 9 [(5, .int (iI (i : Int))), (4, .ref od), (3, .ref o), (2, .ref (hm 0)), (1, .ref (h0 0)), (0, .ref b)])
    (kk : LK p l e R s m args below meth c cells slots Q D cA ad A b hm hr h0 o od i n) : W p l e R s m args below meth c H locs cells slots Q (F0 m 1731 ls []) := by
  obtain ⟨⟨hx, hb, hml, hown, hts⟩, hl9, eR, hN9, hE, hV, hX, hK, hA, hXs, hbl, hbA, hL9⟩ := C
  have hst := st_amountOf (t := s0) (r := s1) (s := sm) hN hI hn (xs (i + 1))
  obtain ⟨k, v, v9, sm9, hc9, hm9, hth, hq, hv, hI9⟩ := hst
  refine lv_aload_n hx hb dL_law_1731 rfl (lv_at hl 4 rfl) ?_
  refine lv_aload_n hx hb dL_law_1732 rfl (lv_at hl 5 rfl) ?_
  refine lv_iload hx hb dL_law_1733 (lv_at hl 0 rfl) ?_
  refine lv_iconst (v := 1) hx hb dL_law_1735 (by decide) ?_
  refine lv_iadd hx hb dL_law_1736 ?_
  refine vSld hx hb hXs hbl hbA hS (k := i + 1) (sIx1 hi hL9) dL_law_1737 ?_
  refine lv_aload_n hx hb dL_law_1738 rfl (lv_at hl 2 rfl) ?_
  refine hCall (w2 := LW cA ad hm hr h0 o od (fU k f v) g sm s0 s1) (hRunS (n := 3) (As := [.ref (h0 0), .int (xs (i + 1)), .ref o]) (rest := []) ⟨hx, hb, hml, hown, hts⟩ (h_amountOf l hl9 D cA ad hr h0 o od _ N ((xs (i + 1))) f g s0 s1 k v hc9 hq) qcw_L_amountOf qml_L_283 qst_L_amountOf qini_L (by decide +kernel) (by rw [eR]; rfl) hN9 hE hV hX hS hA hK hP hD (mid 8 288) (LW_hC _ _ _ _ _ _ _ _ _ _ _ _) (mid_nd _ _) rfl rfl hl.1 rfl (lv_room (Nat.le_of_ble_eq_true rfl)) dL_law_1739 ⟨by rw [eR]; show cells + 1 ≤ 603072; omega, by rw [eR]; show slots + 6 ≤ 7198826; omega⟩) hP hD hS hA (mid 8 288) (LW_hC _ _ _ _ _ _ _ _ _ _ _ _) (HW_fst _ _ _ _ _ _ _ _ _ _ _ _ _ _) (LW_hH _ _ _ _ _ _ _ _ _ _ _ _ _ _ _ _) (fun H locs hP hD hS => ?_)
  refine lv_istore (lv' := [(6, .int (iI (lawC [2] k : Int))), (5, .int (iI (i : Int))), (4, .ref od), (3, .ref o), (2, .ref (hm 0)), (1, .ref (h0 0)), (0, .ref b)]) hx hb dL_law_1742 hl (by decide) rfl (fun ls hl => ?_)
  refine lv_aload_n hx hb dL_law_1744 rfl (lv_at hl 4 rfl) ?_
  refine lv_aload_n hx hb dL_law_1745 rfl (lv_at hl 6 rfl) ?_
  refine lv_iload hx hb dL_law_1746 (lv_at hl 1 rfl) ?_
  refine lv_iconst (v := 1) hx hb dL_law_1748 (by decide) ?_
  refine lv_iadd hx hb dL_law_1749 ?_
  refine vSld hx hb hXs hbl hbA hS (k := i + 1) (sIx1 hi hL9) dL_law_1750 ?_
  refine xCallH (w2 := LW cA ad hm hr h0 o od (fU k f v) g sm9 s0 s1) (xRunV (n := 1) (As := [.int (xs (i + 1))]) (rest := []) ⟨hx, hb, hml, hown, hts⟩ (kX13_amountOf l D cA hm _ N ((xs (i + 1))) sm (v9, sm9) hm9) qco_X13_amountOf qml_L_285 qin_X13_amountOf qse_X13_amountOf qini_X13 (by decide +kernel) (by rw [eR]; rfl) hK hP hD (mid 0 8) (LW_mC _ _ _ _ _ _ _ _ _ _ _ _) (mid_nd _ _) (q0 := 0) rfl rfl rfl rfl rfl hl.1 rfl (lv_room (Nat.le_of_ble_eq_true rfl)) dL_law_1751 ⟨by rw [eR]; show cells + 1 ≤ 603072; omega, by rw [eR]; show slots + 6 ≤ 7198826; omega⟩) hP hD hS hA (mid 0 8) (LW_mC _ _ _ _ _ _ _ _ _ _ _ _) rfl (LW_mH _ _ _ _ _ _ _ _ _ _ _ _ _) (fun H locs hP hD hS => ?_)
  refine lv_lstore (lv' := [(7, .long v9), (6, .int (iI (lawC [2] k : Int))), (5, .int (iI (i : Int))), (4, .ref od), (3, .ref o), (2, .ref (hm 0)), (1, .ref (h0 0)), (0, .ref b)]) hx hb dL_law_1754 hl (by decide) rfl (fun ls hl => ?_)
  refine lv_aload_n hx hb dL_law_1756 rfl (lv_at hl 5 rfl) ?_
  refine xCallH (w2 := LW cA ad hm hr h0 o od (fU k f v) g sm9 s0 s1) (xRunV (n := 0) (As := []) (rest := []) ⟨hx, hb, hml, hown, hts⟩ (kX13_thrown l D cA hm _ N sm9 _ rfl) qco_X13_thrown qml_L_184 qin_X13_thrown qse_X13_thrown qini_X13 (by decide +kernel) (by rw [eR]; rfl) hK hP hD (mid 0 8) (LW_mC _ _ _ _ _ _ _ _ _ _ _ _) (mid_nd _ _) (q0 := 0) rfl rfl rfl rfl rfl hl.1 rfl (lv_room (Nat.le_of_ble_eq_true rfl)) dL_law_1757 ⟨by rw [eR]; show cells + 1 ≤ 603072; omega, by rw [eR]; show slots + 6 ≤ 7198826; omega⟩) hP hD hS hA (mid 0 8) (LW_mC _ _ _ _ _ _ _ _ _ _ _ _) rfl (LW_mH _ _ _ _ _ _ _ _ _ _ _ _ _) (fun H locs hP hD hS => ?_)
  refine lv_iload hx hb dL_law_1760 (lv_at hl 1 rfl) ?_
  refine lv_icmp_eq (tgt := 1767) hx hb dL_law_1762 (by decide) (fun _ => ?_) (fun c9 => absurd hth c9)
  refine lv_iload hx hb dL_law_1767 (lv_at hl 1 rfl) ?_
  refine lv_if_ne (tgt := 1783) hx hb dL_law_1769 (by decide) (fun c9 => ?_) (fun c9 => ?_)
  · refine lv_goto (tgt := 3247) hx hb dL_law_1783 (by decide) ?_
    refine W.widen (k := cells + 3) (n := slots + 18) (by omega) (by omega) ?_
    exact kk _ _ _ _ _ hI9 _ _ hP hD hS _ (lv_sub hl [2, 3, 4, 5, 6, 7] rfl)
  · have hk : k = 0 := Classical.byContradiction fun hk => lawC_nz hk (by decide) c9
    subst hk
    have hvv := hv rfl
    subst hvv
    refine lv_aload_n hx hb dL_law_1772 rfl (lv_at hl 4 rfl) ?_
    refine lv_iconst (v := 0) hx hb dL_law_1773 (by decide) ?_
    refine va_lald hx hb hK hP 8 2 rfl rfl (x_lit (n := 1) (k := 0) (by decide)).1 dL_law_1774 ?_
    rw [fU_0]
    refine lv_lload hx hb dL_law_1775 (lv_at hl 0 rfl) ?_
    refine W.lcmp hx hb dL_law_1777 ?_
    rw [lg_self]
    refine lv_if_eq (tgt := 1783) hx hb dL_law_1778 (by decide) (fun _ => ?_) (fun c9 => absurd rfl c9)
    refine lv_goto (tgt := 3247) hx hb dL_law_1783 (by decide) ?_
    refine W.widen (k := cells + 3) (n := slots + 18) (by omega) (by omega) ?_
    exact kk _ _ _ _ _ hI9 _ _ hP hD hS _ (lv_sub hl [2, 3, 4, 5, 6, 7] rfl)
set_option maxRecDepth 100000 in
set_option maxHeartbeats 4000000 in
theorem v_hourOf (C : LC p l R s m args c D cA ad A b L xs) (hN : 2000 ≤ N) (hi : i + 6 ≤ L) (hI : IV n s0 s1 sm) (hn : n + 1 ≤ 512) (hcl : cells + 3 ≤ 603072) (hsl : slots + 18 ≤ 7198826) (hP : va_P D vwCl (LW cA ad hm hr h0 o od f g sm s0 s1) H) (hD : va_D A (LW cA ad hm hr h0 o od f g sm s0 s1)) (hS : va_S A s.heap H locs) (hl : lv_has ls 9 [(5, .int (iI (i : Int))), (4, .ref od), (3, .ref o), (2, .ref (hm 0)), (1, .ref (h0 0)), (0, .ref b)])
    (kk : LK p l e R s m args below meth c cells slots Q D cA ad A b hm hr h0 o od i n) : W p l e R s m args below meth c H locs cells slots Q (F0 m 1786 ls []) := by
  obtain ⟨⟨hx, hb, hml, hown, hts⟩, hl9, eR, hN9, hE, hV, hX, hK, hA, hXs, hbl, hbA, hL9⟩ := C
  have hst := st_hourOf (t := s0) (r := s1) (s := sm) hN hI hn (xs (i + 1))
  obtain ⟨k, v, v9, sm9, hc9, hm9, hth, hq, hv, hI9⟩ := hst
  refine lv_aload_n hx hb dL_law_1786 rfl (lv_at hl 4 rfl) ?_
  refine lv_aload_n hx hb dL_law_1787 rfl (lv_at hl 5 rfl) ?_
  refine lv_iload hx hb dL_law_1788 (lv_at hl 0 rfl) ?_
  refine lv_iconst (v := 1) hx hb dL_law_1790 (by decide) ?_
  refine lv_iadd hx hb dL_law_1791 ?_
  refine vSld hx hb hXs hbl hbA hS (k := i + 1) (sIx1 hi hL9) dL_law_1792 ?_
  refine lv_aload_n hx hb dL_law_1793 rfl (lv_at hl 2 rfl) ?_
  refine hCall (w2 := LW cA ad hm hr h0 o od (fU k f v.toInt64) g sm s0 s1) (hRunS (n := 3) (As := [.ref (h0 0), .int (xs (i + 1)), .ref o]) (rest := []) ⟨hx, hb, hml, hown, hts⟩ (h_hourOf l hl9 D cA ad hr h0 o od _ N ((xs (i + 1))) f g s0 s1 k v hc9 hq) qcw_L_hourOf qml_L_286 qst_L_hourOf qini_L (by decide +kernel) (by rw [eR]; rfl) hN9 hE hV hX hS hA hK hP hD (mid 8 288) (LW_hC _ _ _ _ _ _ _ _ _ _ _ _) (mid_nd _ _) rfl rfl hl.1 rfl (lv_room (Nat.le_of_ble_eq_true rfl)) dL_law_1794 ⟨by rw [eR]; show cells + 1 ≤ 603072; omega, by rw [eR]; show slots + 6 ≤ 7198826; omega⟩) hP hD hS hA (mid 8 288) (LW_hC _ _ _ _ _ _ _ _ _ _ _ _) (HW_fst _ _ _ _ _ _ _ _ _ _ _ _ _ _) (LW_hH _ _ _ _ _ _ _ _ _ _ _ _ _ _ _ _) (fun H locs hP hD hS => ?_)
  refine lv_istore (lv' := [(6, .int (iI (lawC [2] k : Int))), (5, .int (iI (i : Int))), (4, .ref od), (3, .ref o), (2, .ref (hm 0)), (1, .ref (h0 0)), (0, .ref b)]) hx hb dL_law_1797 hl (by decide) rfl (fun ls hl => ?_)
  refine lv_aload_n hx hb dL_law_1799 rfl (lv_at hl 4 rfl) ?_
  refine lv_aload_n hx hb dL_law_1800 rfl (lv_at hl 6 rfl) ?_
  refine lv_iload hx hb dL_law_1801 (lv_at hl 1 rfl) ?_
  refine lv_iconst (v := 1) hx hb dL_law_1803 (by decide) ?_
  refine lv_iadd hx hb dL_law_1804 ?_
  refine vSld hx hb hXs hbl hbA hS (k := i + 1) (sIx1 hi hL9) dL_law_1805 ?_
  refine xCallH (w2 := LW cA ad hm hr h0 o od (fU k f v.toInt64) g sm9 s0 s1) (xRunV (n := 1) (As := [.int (xs (i + 1))]) (rest := []) ⟨hx, hb, hml, hown, hts⟩ (kX13_hourOf l D cA hm _ N ((xs (i + 1))) sm (v9, sm9) hm9) qco_X13_hourOf qml_L_288 qin_X13_hourOf qse_X13_hourOf qini_X13 (by decide +kernel) (by rw [eR]; rfl) hK hP hD (mid 0 8) (LW_mC _ _ _ _ _ _ _ _ _ _ _ _) (mid_nd _ _) (q0 := 0) rfl rfl rfl rfl rfl hl.1 rfl (lv_room (Nat.le_of_ble_eq_true rfl)) dL_law_1806 ⟨by rw [eR]; show cells + 1 ≤ 603072; omega, by rw [eR]; show slots + 6 ≤ 7198826; omega⟩) hP hD hS hA (mid 0 8) (LW_mC _ _ _ _ _ _ _ _ _ _ _ _) rfl (LW_mH _ _ _ _ _ _ _ _ _ _ _ _ _) (fun H locs hP hD hS => ?_)
  refine lv_istore (lv' := [(7, .int v9), (6, .int (iI (lawC [2] k : Int))), (5, .int (iI (i : Int))), (4, .ref od), (3, .ref o), (2, .ref (hm 0)), (1, .ref (h0 0)), (0, .ref b)]) hx hb dL_law_1809 hl (by decide) rfl (fun ls hl => ?_)
  refine lv_aload_n hx hb dL_law_1811 rfl (lv_at hl 5 rfl) ?_
  refine xCallH (w2 := LW cA ad hm hr h0 o od (fU k f v.toInt64) g sm9 s0 s1) (xRunV (n := 0) (As := []) (rest := []) ⟨hx, hb, hml, hown, hts⟩ (kX13_thrown l D cA hm _ N sm9 _ rfl) qco_X13_thrown qml_L_184 qin_X13_thrown qse_X13_thrown qini_X13 (by decide +kernel) (by rw [eR]; rfl) hK hP hD (mid 0 8) (LW_mC _ _ _ _ _ _ _ _ _ _ _ _) (mid_nd _ _) (q0 := 0) rfl rfl rfl rfl rfl hl.1 rfl (lv_room (Nat.le_of_ble_eq_true rfl)) dL_law_1812 ⟨by rw [eR]; show cells + 1 ≤ 603072; omega, by rw [eR]; show slots + 6 ≤ 7198826; omega⟩) hP hD hS hA (mid 0 8) (LW_mC _ _ _ _ _ _ _ _ _ _ _ _) rfl (LW_mH _ _ _ _ _ _ _ _ _ _ _ _ _) (fun H locs hP hD hS => ?_)
  refine lv_iload hx hb dL_law_1815 (lv_at hl 1 rfl) ?_
  refine lv_icmp_eq (tgt := 1822) hx hb dL_law_1817 (by decide) (fun _ => ?_) (fun c9 => absurd hth c9)
  refine lv_iload hx hb dL_law_1822 (lv_at hl 1 rfl) ?_
  refine lv_if_ne (tgt := 1839) hx hb dL_law_1824 (by decide) (fun c9 => ?_) (fun c9 => ?_)
  · refine lv_goto (tgt := 3247) hx hb dL_law_1839 (by decide) ?_
    refine W.widen (k := cells + 3) (n := slots + 18) (by omega) (by omega) ?_
    exact kk _ _ _ _ _ hI9 _ _ hP hD hS _ (lv_sub hl [2, 3, 4, 5, 6, 7] rfl)
  · have hk : k = 0 := Classical.byContradiction fun hk => lawC_nz hk (by decide) c9
    subst hk
    have hvv := hv rfl
    subst hvv
    refine lv_aload_n hx hb dL_law_1827 rfl (lv_at hl 4 rfl) ?_
    refine lv_iconst (v := 0) hx hb dL_law_1828 (by decide) ?_
    refine va_lald hx hb hK hP 8 2 rfl rfl (x_lit (n := 1) (k := 0) (by decide)).1 dL_law_1829 ?_
    rw [fU_0]
    refine lv_iload hx hb dL_law_1830 (lv_at hl 0 rfl) ?_
    refine lv_i2l (v := v.toInt64) hx hb dL_law_1832 rfl ?_
    refine W.lcmp hx hb dL_law_1833 ?_
    rw [lg_self]
    refine lv_if_eq (tgt := 1839) hx hb dL_law_1834 (by decide) (fun _ => ?_) (fun c9 => absurd rfl c9)
    refine lv_goto (tgt := 3247) hx hb dL_law_1839 (by decide) ?_
    refine W.widen (k := cells + 3) (n := slots + 18) (by omega) (by omega) ?_
    exact kk _ _ _ _ _ hI9 _ _ hP hD hS _ (lv_sub hl [2, 3, 4, 5, 6, 7] rfl)
set_option maxRecDepth 100000 in
set_option maxHeartbeats 4000000 in
theorem v_isReversed (C : LC p l R s m args c D cA ad A b L xs) (hN : 2000 ≤ N) (hi : i + 6 ≤ L) (hI : IV n s0 s1 sm) (hn : n + 1 ≤ 512) (hcl : cells + 3 ≤ 603072) (hsl : slots + 18 ≤ 7198826) (hP : va_P D vwCl (LW cA ad hm hr h0 o od f g sm s0 s1) H) (hD : va_D A (LW cA ad hm hr h0 o od f g sm s0 s1)) (hS : va_S A s.heap H locs) (hl : lv_has ls 9 [(5, .int (iI (i : Int))), (4, .ref od), (3, .ref o), (2, .ref (hm 0)), (1, .ref (h0 0)), (0, .ref b)])
    (kk : LK p l e R s m args below meth c cells slots Q D cA ad A b hm hr h0 o od i n) : W p l e R s m args below meth c H locs cells slots Q (F0 m 1842 ls []) := by
  obtain ⟨⟨hx, hb, hml, hown, hts⟩, hl9, eR, hN9, hE, hV, hX, hK, hA, hXs, hbl, hbA, hL9⟩ := C
  have hst := st_isReversed (t := s0) (r := s1) (s := sm) hN hI hn (xs (i + 1))
  obtain ⟨k, v, v9, sm9, hc9, hm9, hth, hq, hv, hI9⟩ := hst
  refine lv_aload_n hx hb dL_law_1842 rfl (lv_at hl 4 rfl) ?_
  refine lv_aload_n hx hb dL_law_1843 rfl (lv_at hl 5 rfl) ?_
  refine lv_iload hx hb dL_law_1844 (lv_at hl 0 rfl) ?_
  refine lv_iconst (v := 1) hx hb dL_law_1846 (by decide) ?_
  refine lv_iadd hx hb dL_law_1847 ?_
  refine vSld hx hb hXs hbl hbA hS (k := i + 1) (sIx1 hi hL9) dL_law_1848 ?_
  refine lv_aload_n hx hb dL_law_1849 rfl (lv_at hl 2 rfl) ?_
  refine hCall (w2 := LW cA ad hm hr h0 o od (fU k f (hB v)) g sm s0 s1) (hRunS (n := 3) (As := [.ref (h0 0), .int (xs (i + 1)), .ref o]) (rest := []) ⟨hx, hb, hml, hown, hts⟩ (h_isReversed l hl9 D cA ad hr h0 o od _ N ((xs (i + 1))) f g s0 s1 k v hc9 hq) qcw_L_isReversed qml_L_289 qst_L_isReversed qini_L (by decide +kernel) (by rw [eR]; rfl) hN9 hE hV hX hS hA hK hP hD (mid 8 288) (LW_hC _ _ _ _ _ _ _ _ _ _ _ _) (mid_nd _ _) rfl rfl hl.1 rfl (lv_room (Nat.le_of_ble_eq_true rfl)) dL_law_1850 ⟨by rw [eR]; show cells + 1 ≤ 603072; omega, by rw [eR]; show slots + 6 ≤ 7198826; omega⟩) hP hD hS hA (mid 8 288) (LW_hC _ _ _ _ _ _ _ _ _ _ _ _) (HW_fst _ _ _ _ _ _ _ _ _ _ _ _ _ _) (LW_hH _ _ _ _ _ _ _ _ _ _ _ _ _ _ _ _) (fun H locs hP hD hS => ?_)
  refine lv_istore (lv' := [(6, .int (iI (lawC [2] k : Int))), (5, .int (iI (i : Int))), (4, .ref od), (3, .ref o), (2, .ref (hm 0)), (1, .ref (h0 0)), (0, .ref b)]) hx hb dL_law_1853 hl (by decide) rfl (fun ls hl => ?_)
  refine lv_aload_n hx hb dL_law_1855 rfl (lv_at hl 4 rfl) ?_
  refine lv_aload_n hx hb dL_law_1856 rfl (lv_at hl 6 rfl) ?_
  refine lv_iload hx hb dL_law_1857 (lv_at hl 1 rfl) ?_
  refine lv_iconst (v := 1) hx hb dL_law_1859 (by decide) ?_
  refine lv_iadd hx hb dL_law_1860 ?_
  refine vSld hx hb hXs hbl hbA hS (k := i + 1) (sIx1 hi hL9) dL_law_1861 ?_
  refine xCallH (w2 := LW cA ad hm hr h0 o od (fU k f (hB v)) g sm9 s0 s1) (xRunV (n := 1) (As := [.int (xs (i + 1))]) (rest := []) ⟨hx, hb, hml, hown, hts⟩ (kX13_isReversed l D cA hm _ N ((xs (i + 1))) sm (v9, sm9) hm9) qco_X13_isReversed qml_L_291 qin_X13_isReversed qse_X13_isReversed qini_X13 (by decide +kernel) (by rw [eR]; rfl) hK hP hD (mid 0 8) (LW_mC _ _ _ _ _ _ _ _ _ _ _ _) (mid_nd _ _) (q0 := 0) rfl rfl rfl rfl rfl hl.1 rfl (lv_room (Nat.le_of_ble_eq_true rfl)) dL_law_1862 ⟨by rw [eR]; show cells + 1 ≤ 603072; omega, by rw [eR]; show slots + 6 ≤ 7198826; omega⟩) hP hD hS hA (mid 0 8) (LW_mC _ _ _ _ _ _ _ _ _ _ _ _) rfl (LW_mH _ _ _ _ _ _ _ _ _ _ _ _ _) (fun H locs hP hD hS => ?_)
  refine lv_istore (lv' := [(7, .int v9), (6, .int (iI (lawC [2] k : Int))), (5, .int (iI (i : Int))), (4, .ref od), (3, .ref o), (2, .ref (hm 0)), (1, .ref (h0 0)), (0, .ref b)]) hx hb dL_law_1865 hl (by decide) rfl (fun ls hl => ?_)
  refine lv_aload_n hx hb dL_law_1867 rfl (lv_at hl 5 rfl) ?_
  refine xCallH (w2 := LW cA ad hm hr h0 o od (fU k f (hB v)) g sm9 s0 s1) (xRunV (n := 0) (As := []) (rest := []) ⟨hx, hb, hml, hown, hts⟩ (kX13_thrown l D cA hm _ N sm9 _ rfl) qco_X13_thrown qml_L_184 qin_X13_thrown qse_X13_thrown qini_X13 (by decide +kernel) (by rw [eR]; rfl) hK hP hD (mid 0 8) (LW_mC _ _ _ _ _ _ _ _ _ _ _ _) (mid_nd _ _) (q0 := 0) rfl rfl rfl rfl rfl hl.1 rfl (lv_room (Nat.le_of_ble_eq_true rfl)) dL_law_1868 ⟨by rw [eR]; show cells + 1 ≤ 603072; omega, by rw [eR]; show slots + 6 ≤ 7198826; omega⟩) hP hD hS hA (mid 0 8) (LW_mC _ _ _ _ _ _ _ _ _ _ _ _) rfl (LW_mH _ _ _ _ _ _ _ _ _ _ _ _ _) (fun H locs hP hD hS => ?_)
  refine lv_iload hx hb dL_law_1871 (lv_at hl 1 rfl) ?_
  refine lv_icmp_eq (tgt := 1878) hx hb dL_law_1873 (by decide) (fun _ => ?_) (fun c9 => absurd hth c9)
  refine lv_iload hx hb dL_law_1878 (lv_at hl 1 rfl) ?_
  refine lv_if_ne (tgt := 1902) hx hb dL_law_1880 (by decide) (fun c9 => ?_) (fun c9 => ?_)
  · refine lv_goto (tgt := 3247) hx hb dL_law_1902 (by decide) ?_
    refine W.widen (k := cells + 3) (n := slots + 18) (by omega) (by omega) ?_
    exact kk _ _ _ _ _ hI9 _ _ hP hD hS _ (lv_sub hl [2, 3, 4, 5, 6, 7] rfl)
  · have hk : k = 0 := Classical.byContradiction fun hk => lawC_nz hk (by decide) c9
    subst hk
    have hvv := hv rfl
    subst hvv
    refine lv_aload_n hx hb dL_law_1883 rfl (lv_at hl 4 rfl) ?_
    refine lv_iconst (v := 0) hx hb dL_law_1884 (by decide) ?_
    refine va_lald hx hb hK hP 8 2 rfl rfl (x_lit (n := 1) (k := 0) (by decide)).1 dL_law_1885 ?_
    rw [fU_0]
    refine lv_iload hx hb dL_law_1886 (lv_at hl 0 rfl) ?_
    refine lv_if_eq (tgt := 1895) hx hb dL_law_1888 (by decide) (fun c0 => ?_) (fun c0 => ?_)
    · refine lv_lconst (v := hB v) hx hb dL_law_1895 (by rw [hB, if_pos c0]; decide) ?_
      refine W.lcmp hx hb dL_law_1896 ?_
      rw [lg_self]
      refine lv_if_eq (tgt := 1902) hx hb dL_law_1897 (by decide) (fun _ => ?_) (fun c9 => absurd rfl c9)
      refine lv_goto (tgt := 3247) hx hb dL_law_1902 (by decide) ?_
      refine W.widen (k := cells + 3) (n := slots + 18) (by omega) (by omega) ?_
      exact kk _ _ _ _ _ hI9 _ _ hP hD hS _ (lv_sub hl [2, 3, 4, 5, 6, 7] rfl)
    · refine lv_lconst (v := hB v) hx hb dL_law_1891 (by rw [hB, if_neg c0]; decide) ?_
      refine lv_goto (tgt := 1896) hx hb dL_law_1892 (by decide) ?_
      refine W.lcmp hx hb dL_law_1896 ?_
      rw [lg_self]
      refine lv_if_eq (tgt := 1902) hx hb dL_law_1897 (by decide) (fun _ => ?_) (fun c9 => absurd rfl c9)
      refine lv_goto (tgt := 3247) hx hb dL_law_1902 (by decide) ?_
      refine W.widen (k := cells + 3) (n := slots + 18) (by omega) (by omega) ?_
      exact kk _ _ _ _ _ hI9 _ _ hP hD hS _ (lv_sub hl [2, 3, 4, 5, 6, 7] rfl)
set_option maxRecDepth 100000 in
set_option maxHeartbeats 4000000 in
theorem v_promptCount (C : LC p l R s m args c D cA ad A b L xs) (hN : 2000 ≤ N) (hi : i + 6 ≤ L) (hI : IV n s0 s1 sm) (hn : n + 1 ≤ 512) (hcl : cells + 3 ≤ 603072) (hsl : slots + 18 ≤ 7198826) (hP : va_P D vwCl (LW cA ad hm hr h0 o od f g sm s0 s1) H) (hD : va_D A (LW cA ad hm hr h0 o od f g sm s0 s1)) (hS : va_S A s.heap H locs) (hl : lv_has ls 9 [(5, .int (iI (i : Int))), (4, .ref od), (3, .ref o), (2, .ref (hm 0)), (1, .ref (h0 0)), (0, .ref b)])
    (kk : LK p l e R s m args below meth c cells slots Q D cA ad A b hm hr h0 o od i n) : W p l e R s m args below meth c H locs cells slots Q (F0 m 1905 ls []) := by
  obtain ⟨⟨hx, hb, hml, hown, hts⟩, hl9, eR, hN9, hE, hV, hX, hK, hA, hXs, hbl, hbA, hL9⟩ := C
  have hst := st_promptCount (t := s0) (r := s1) (s := sm) hN hI hn
  obtain ⟨v, sm9, hc9, hm9, hI9⟩ := hst
  refine lv_aload_n hx hb dL_law_1905 rfl (lv_at hl 4 rfl) ?_
  refine xCallH (w2 := LW cA ad hm hr h0 o od f g sm s0 s1) (zRunV (n := 0) (As := []) (rest := []) ⟨hx, hb, hml, hown, hts⟩ (kX12_promptCount l D cA ad hr h0 _ N s0 v hc9) qco_X12_promptCount qml_L_292 qin_X12_promptCount qse_X12_promptCount qini_X12 (by decide +kernel) (by rw [eR]; rfl) hN9 hE hS hA hK hP hD (mid 10 61) (LW_tC _ _ _ _ _ _ _ _ _ _ _ _) (mid_nd _ _) (q0 := 0) rfl rfl rfl rfl rfl hl.1 rfl (lv_room (Nat.le_of_ble_eq_true rfl)) dL_law_1906 ⟨by rw [eR]; show cells + 0 ≤ 603072; omega, by rw [eR]; show slots + 0 ≤ 7198826; omega⟩) hP hD hS hA (mid 10 61) (LW_tC _ _ _ _ _ _ _ _ _ _ _ _) rfl (LW_tH _ _ _ _ _ _ _ _ _ _ _ _ _) (fun H locs hP hD hS => ?_)
  refine lv_aload_n hx hb dL_law_1909 rfl (lv_at hl 3 rfl) ?_
  refine xCallH (w2 := LW cA ad hm hr h0 o od f g sm9 s0 s1) (xRunV (n := 0) (As := []) (rest := [.int v]) ⟨hx, hb, hml, hown, hts⟩ (kX13_promptCount l D cA hm _ N sm (v, sm9) hm9) qco_X13_promptCount qml_L_295 qin_X13_promptCount qse_X13_promptCount qini_X13 (by decide +kernel) (by rw [eR]; rfl) hK hP hD (mid 0 8) (LW_mC _ _ _ _ _ _ _ _ _ _ _ _) (mid_nd _ _) (q0 := 0) rfl rfl rfl rfl rfl hl.1 rfl (lv_room (Nat.le_of_ble_eq_true rfl)) dL_law_1910 ⟨by rw [eR]; show cells + 0 ≤ 603072; omega, by rw [eR]; show slots + 0 ≤ 7198826; omega⟩) hP hD hS hA (mid 0 8) (LW_mC _ _ _ _ _ _ _ _ _ _ _ _) rfl (LW_mH _ _ _ _ _ _ _ _ _ _ _ _ _) (fun H locs hP hD hS => ?_)
  refine lv_icmp_eq (tgt := 3247) hx hb dL_law_1913 (by decide) (fun _ => ?_) (fun c9 => absurd rfl c9)
  refine W.widen (k := cells + 3) (n := slots + 18) (by omega) (by omega) ?_
  exact kk _ _ _ _ _ hI9 _ _ hP hD hS _ (lv_sub hl [0, 1, 2, 3, 4, 5] rfl)
end CASES
