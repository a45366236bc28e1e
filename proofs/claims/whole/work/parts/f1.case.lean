/-! cases -/
section CASES
variable {p : Program} {l : Launch} {e : Env} {R : Room} {s : State} {m : MethodId} {args : Array Value} {below : List Frame} {meth : Method} {c : Code} {H : Heap} {locs : List Loc} {cells slots : Nat} {Q : State → Prop}
variable {ls : Array Slot} {D : va_G} {cA : Nat → ClassId} {ad : Nat → Nat} {A : Nat → Prop} {b L : Nat} {xs : Nat → Int32} {hm : Nat → Nat} {hr : Nat → Nat → Nat} {h0 : Nat → Nat} {o od N i n : Nat} {f : Nat → Int64} {g : Nat → UInt64} {s0 : ThlS} {s1 : Nat → BooS} {sm : MS}
set_option maxRecDepth 100000 in
set_option maxHeartbeats 4000000 in
theorem v_post (C : LC p l R s m args c D cA ad A b L xs) (hN : 2000 ≤ N) (hi : i + 6 ≤ L) (hI : IV n s0 s1 sm) (hn : n + 1 ≤ 512) (hcl : cells + 3 ≤ 603072) (hsl : slots + 18 ≤ 7198826) (hP : va_P D vwCl (LW cA ad hm hr h0 o od f g sm s0 s1) H) (hD : va_D A (LW cA ad hm hr h0 o od f g sm s0 s1)) (hS : va_S A s.heap H locs) (hl : lv_has ls 9 [(5, .int (iI (i : Int))), (4, .ref od), (3, .ref o), (2, .ref (hm 0)), (1, .ref (h0 0)), (0, .ref b)])
    (kk : LK p l e R s m args below meth c cells slots Q D cA ad A b hm hr h0 o od i n) : W p l e R s m args below meth c H locs cells slots Q (F0 m 426 ls []) := by
  obtain ⟨⟨hx, hb, hml, hown, hts⟩, hl9, eR, hN9, hE, hV, hX, hK, hA, hXs, hbl, hbA, hL9⟩ := C
  have hst := st_post (t := s0) (r := s1) (s := sm) hN hI hn (xs (i + 1)) (xs (i + 2)) (xs (i + 3))
  obtain ⟨k, v, v9, t9, r9, sm9, hc9, hm9, hth, hq, hv, hI9⟩ := hst
  refine lv_aload_n hx hb dL_law_426 rfl (lv_at hl 4 rfl) ?_
  refine lv_aload_n hx hb dL_law_427 rfl (lv_at hl 5 rfl) ?_
  refine lv_iload hx hb dL_law_428 (lv_at hl 0 rfl) ?_
  refine lv_iconst (v := 1) hx hb dL_law_430 (by decide) ?_
  refine lv_iadd hx hb dL_law_431 ?_
  refine vSld hx hb hXs hbl hbA hS (k := i + 1) (sIx1 hi hL9) dL_law_432 ?_
  refine lv_aload_n hx hb dL_law_433 rfl (lv_at hl 5 rfl) ?_
  refine lv_iload hx hb dL_law_434 (lv_at hl 0 rfl) ?_
  refine lv_iconst (v := 2) hx hb dL_law_436 (by decide) ?_
  refine lv_iadd hx hb dL_law_437 ?_
  refine vSld hx hb hXs hbl hbA hS (k := i + 2) (sIx2 hi hL9) dL_law_438 ?_
  refine lv_aload_n hx hb dL_law_439 rfl (lv_at hl 5 rfl) ?_
  refine lv_iload hx hb dL_law_440 (lv_at hl 0 rfl) ?_
  refine lv_iconst (v := 3) hx hb dL_law_442 (by decide) ?_
  refine lv_iadd hx hb dL_law_443 ?_
  refine vSld hx hb hXs hbl hbA hS (k := i + 3) (sIx3 hi hL9) dL_law_444 ?_
  refine lv_aload_n hx hb dL_law_445 rfl (lv_at hl 2 rfl) ?_
  refine hCall (w2 := LW cA ad hm hr h0 o od (fU k f v.toInt64) g sm t9 r9) (hRunS (n := 5) (As := [.ref (h0 0), .int (xs (i + 1)), .int (xs (i + 2)), .int (xs (i + 3)), .ref o]) (rest := []) ⟨hx, hb, hml, hown, hts⟩ (h_post l hl9 D cA ad hr h0 o od _ N ((xs (i + 1))) ((xs (i + 2))) ((xs (i + 3))) f g s0 s1 k v t9 r9 hc9 hq) qcw_L_post qml_L_191 qst_L_post qini_L (by decide +kernel) (by rw [eR]; rfl) hN9 hE hV hX hS hA hK hP hD (mid 8 288) (LW_hC _ _ _ _ _ _ _ _ _ _ _ _) (mid_nd _ _) rfl rfl hl.1 rfl (lv_room (Nat.le_of_ble_eq_true rfl)) dL_law_446 ⟨by rw [eR]; show cells + 1 ≤ 603072; omega, by rw [eR]; show slots + 6 ≤ 7198826; omega⟩) hP hD hS hA (mid 8 288) (LW_hC _ _ _ _ _ _ _ _ _ _ _ _) (HW_fst _ _ _ _ _ _ _ _ _ _ _ _ _ _) (LW_hH _ _ _ _ _ _ _ _ _ _ _ _ _ _ _ _) (fun H locs hP hD hS => ?_)
  refine lv_istore (lv' := [(6, .int (iI (lawC [1, 3] k : Int))), (5, .int (iI (i : Int))), (4, .ref od), (3, .ref o), (2, .ref (hm 0)), (1, .ref (h0 0)), (0, .ref b)]) hx hb dL_law_449 hl (by decide) rfl (fun ls hl => ?_)
  refine lv_aload_n hx hb dL_law_451 rfl (lv_at hl 4 rfl) ?_
  refine lv_aload_n hx hb dL_law_452 rfl (lv_at hl 6 rfl) ?_
  refine lv_iload hx hb dL_law_453 (lv_at hl 1 rfl) ?_
  refine lv_iconst (v := 1) hx hb dL_law_455 (by decide) ?_
  refine lv_iadd hx hb dL_law_456 ?_
  refine vSld hx hb hXs hbl hbA hS (k := i + 1) (sIx1 hi hL9) dL_law_457 ?_
  refine lv_aload_n hx hb dL_law_458 rfl (lv_at hl 6 rfl) ?_
  refine lv_iload hx hb dL_law_459 (lv_at hl 1 rfl) ?_
  refine lv_iconst (v := 2) hx hb dL_law_461 (by decide) ?_
  refine lv_iadd hx hb dL_law_462 ?_
  refine vSld hx hb hXs hbl hbA hS (k := i + 2) (sIx2 hi hL9) dL_law_463 ?_
  refine lv_aload_n hx hb dL_law_464 rfl (lv_at hl 6 rfl) ?_
  refine lv_iload hx hb dL_law_465 (lv_at hl 1 rfl) ?_
  refine lv_iconst (v := 3) hx hb dL_law_467 (by decide) ?_
  refine lv_iadd hx hb dL_law_468 ?_
  refine vSld hx hb hXs hbl hbA hS (k := i + 3) (sIx3 hi hL9) dL_law_469 ?_
  refine xCallH (w2 := LW cA ad hm hr h0 o od (fU k f v.toInt64) g sm9 t9 r9) (xRunV (n := 3) (As := [.int (xs (i + 1)), .int (xs (i + 2)), .int (xs (i + 3))]) (rest := []) ⟨hx, hb, hml, hown, hts⟩ (kX13_post l D cA hm _ N ((xs (i + 1))) ((xs (i + 2))) ((xs (i + 3))) sm (v9, sm9) hm9) qco_X13_post qml_L_194 qin_X13_post qse_X13_post qini_X13 (by decide +kernel) (by rw [eR]; rfl) hK hP hD (mid 0 8) (LW_mC _ _ _ _ _ _ _ _ _ _ _ _) (mid_nd _ _) (q0 := 0) rfl rfl rfl rfl rfl hl.1 rfl (lv_room (Nat.le_of_ble_eq_true rfl)) dL_law_470 ⟨by rw [eR]; show cells + 1 ≤ 603072; omega, by rw [eR]; show slots + 6 ≤ 7198826; omega⟩) hP hD hS hA (mid 0 8) (LW_mC _ _ _ _ _ _ _ _ _ _ _ _) rfl (LW_mH _ _ _ _ _ _ _ _ _ _ _ _ _) (fun H locs hP hD hS => ?_)
  refine lv_istore (lv' := [(7, .int v9), (6, .int (iI (lawC [1, 3] k : Int))), (5, .int (iI (i : Int))), (4, .ref od), (3, .ref o), (2, .ref (hm 0)), (1, .ref (h0 0)), (0, .ref b)]) hx hb dL_law_473 hl (by decide) rfl (fun ls hl => ?_)
  refine lv_aload_n hx hb dL_law_475 rfl (lv_at hl 5 rfl) ?_
  refine xCallH (w2 := LW cA ad hm hr h0 o od (fU k f v.toInt64) g sm9 t9 r9) (xRunV (n := 0) (As := []) (rest := []) ⟨hx, hb, hml, hown, hts⟩ (kX13_thrown l D cA hm _ N sm9 _ rfl) qco_X13_thrown qml_L_184 qin_X13_thrown qse_X13_thrown qini_X13 (by decide +kernel) (by rw [eR]; rfl) hK hP hD (mid 0 8) (LW_mC _ _ _ _ _ _ _ _ _ _ _ _) (mid_nd _ _) (q0 := 0) rfl rfl rfl rfl rfl hl.1 rfl (lv_room (Nat.le_of_ble_eq_true rfl)) dL_law_476 ⟨by rw [eR]; show cells + 1 ≤ 603072; omega, by rw [eR]; show slots + 6 ≤ 7198826; omega⟩) hP hD hS hA (mid 0 8) (LW_mC _ _ _ _ _ _ _ _ _ _ _ _) rfl (LW_mH _ _ _ _ _ _ _ _ _ _ _ _ _) (fun H locs hP hD hS => ?_)
  refine lv_iload hx hb dL_law_479 (lv_at hl 1 rfl) ?_
  refine lv_icmp_eq (tgt := 486) hx hb dL_law_481 (by decide) (fun _ => ?_) (fun c9 => absurd hth c9)
  refine lv_iload hx hb dL_law_486 (lv_at hl 1 rfl) ?_
  refine lv_if_ne (tgt := 503) hx hb dL_law_488 (by decide) (fun c9 => ?_) (fun c9 => ?_)
  · refine lv_goto (tgt := 3247) hx hb dL_law_503 (by decide) ?_
    refine W.widen (k := cells + 3) (n := slots + 18) (by omega) (by omega) ?_
    exact kk _ _ _ _ _ hI9 _ _ hP hD hS _ (lv_sub hl [2, 3, 4, 5, 6, 7] rfl)
  · have hk : k = 0 := Classical.byContradiction fun hk => lawC_nz hk (by decide) c9
    subst hk
    have hvv := hv rfl
    subst hvv
    refine lv_aload_n hx hb dL_law_491 rfl (lv_at hl 4 rfl) ?_
    refine lv_iconst (v := 0) hx hb dL_law_492 (by decide) ?_
    refine va_lald hx hb hK hP 8 2 rfl rfl (x_lit (n := 1) (k := 0) (by decide)).1 dL_law_493 ?_
    rw [fU_0]
    refine lv_iload hx hb dL_law_494 (lv_at hl 0 rfl) ?_
    refine lv_i2l (v := v.toInt64) hx hb dL_law_496 rfl ?_
    refine W.lcmp hx hb dL_law_497 ?_
    rw [lg_self]
    refine lv_if_eq (tgt := 503) hx hb dL_law_498 (by decide) (fun _ => ?_) (fun c9 => absurd rfl c9)
    refine lv_goto (tgt := 3247) hx hb dL_law_503 (by decide) ?_
    refine W.widen (k := cells + 3) (n := slots + 18) (by omega) (by omega) ?_
    exact kk _ _ _ _ _ hI9 _ _ hP hD hS _ (lv_sub hl [2, 3, 4, 5, 6, 7] rfl)
set_option maxRecDepth 100000 in
set_option maxHeartbeats 4000000 in
theorem v_reverse (C : LC p l R s m args c D cA ad A b L xs) (hN : 2000 ≤ N) (hi : i + 6 ≤ L) (hI : IV n s0 s1 sm) (hn : n + 1 ≤ 512) (hcl : cells + 3 ≤ 603072) (hsl : slots + 18 ≤ 7198826) (hP : va_P D vwCl (LW cA ad hm hr h0 o od f g sm s0 s1) H) (hD : va_D A (LW cA ad hm hr h0 o od f g sm s0 s1)) (hS : va_S A s.heap H locs) (hl : lv_has ls 9 [(5, .int (iI (i : Int))), (4, .ref od), (3, .ref o), (2, .ref (hm 0)), (1, .ref (h0 0)), (0, .ref b)])
    (kk : LK p l e R s m args below meth c cells slots Q D cA ad A b hm hr h0 o od i n) : W p l e R s m args below meth c H locs cells slots Q (F0 m 506 ls []) := by
  obtain ⟨⟨hx, hb, hml, hown, hts⟩, hl9, eR, hN9, hE, hV, hX, hK, hA, hXs, hbl, hbA, hL9⟩ := C
  have hst := st_reverse (t := s0) (r := s1) (s := sm) hN hI hn (xs (i + 1))
  obtain ⟨k, v, v9, t9, r9, sm9, hc9, hm9, hth, hq, hv, hI9⟩ := hst
  refine lv_aload_n hx hb dL_law_506 rfl (lv_at hl 4 rfl) ?_
  refine lv_aload_n hx hb dL_law_507 rfl (lv_at hl 5 rfl) ?_
  refine lv_iload hx hb dL_law_508 (lv_at hl 0 rfl) ?_
  refine lv_iconst (v := 1) hx hb dL_law_510 (by decide) ?_
  refine lv_iadd hx hb dL_law_511 ?_
  refine vSld hx hb hXs hbl hbA hS (k := i + 1) (sIx1 hi hL9) dL_law_512 ?_
  refine lv_aload_n hx hb dL_law_513 rfl (lv_at hl 2 rfl) ?_
  refine hCall (w2 := LW cA ad hm hr h0 o od (fU k f v.toInt64) g sm t9 r9) (hRunS (n := 3) (As := [.ref (h0 0), .int (xs (i + 1)), .ref o]) (rest := []) ⟨hx, hb, hml, hown, hts⟩ (h_reverse l hl9 D cA ad hr h0 o od _ N ((xs (i + 1))) f g s0 s1 k v t9 r9 hc9 hq) qcw_L_reverse qml_L_195 qst_L_reverse qini_L (by decide +kernel) (by rw [eR]; rfl) hN9 hE hV hX hS hA hK hP hD (mid 8 288) (LW_hC _ _ _ _ _ _ _ _ _ _ _ _) (mid_nd _ _) rfl rfl hl.1 rfl (lv_room (Nat.le_of_ble_eq_true rfl)) dL_law_514 ⟨by rw [eR]; show cells + 1 ≤ 603072; omega, by rw [eR]; show slots + 6 ≤ 7198826; omega⟩) hP hD hS hA (mid 8 288) (LW_hC _ _ _ _ _ _ _ _ _ _ _ _) (HW_fst _ _ _ _ _ _ _ _ _ _ _ _ _ _) (LW_hH _ _ _ _ _ _ _ _ _ _ _ _ _ _ _ _) (fun H locs hP hD hS => ?_)
  refine lv_istore (lv' := [(6, .int (iI (lawC [2, 4] k : Int))), (5, .int (iI (i : Int))), (4, .ref od), (3, .ref o), (2, .ref (hm 0)), (1, .ref (h0 0)), (0, .ref b)]) hx hb dL_law_517 hl (by decide) rfl (fun ls hl => ?_)
  refine lv_aload_n hx hb dL_law_519 rfl (lv_at hl 4 rfl) ?_
  refine lv_aload_n hx hb dL_law_520 rfl (lv_at hl 6 rfl) ?_
  refine lv_iload hx hb dL_law_521 (lv_at hl 1 rfl) ?_
  refine lv_iconst (v := 1) hx hb dL_law_523 (by decide) ?_
  refine lv_iadd hx hb dL_law_524 ?_
  refine vSld hx hb hXs hbl hbA hS (k := i + 1) (sIx1 hi hL9) dL_law_525 ?_
  refine xCallH (w2 := LW cA ad hm hr h0 o od (fU k f v.toInt64) g sm9 t9 r9) (xRunV (n := 1) (As := [.int (xs (i + 1))]) (rest := []) ⟨hx, hb, hml, hown, hts⟩ (kX13_reverse l D cA hm _ N ((xs (i + 1))) sm (v9, sm9) hm9) qco_X13_reverse qml_L_197 qin_X13_reverse qse_X13_reverse qini_X13 (by decide +kernel) (by rw [eR]; rfl) hK hP hD (mid 0 8) (LW_mC _ _ _ _ _ _ _ _ _ _ _ _) (mid_nd _ _) (q0 := 0) rfl rfl rfl rfl rfl hl.1 rfl (lv_room (Nat.le_of_ble_eq_true rfl)) dL_law_526 ⟨by rw [eR]; show cells + 1 ≤ 603072; omega, by rw [eR]; show slots + 6 ≤ 7198826; omega⟩) hP hD hS hA (mid 0 8) (LW_mC _ _ _ _ _ _ _ _ _ _ _ _) rfl (LW_mH _ _ _ _ _ _ _ _ _ _ _ _ _) (fun H locs hP hD hS => ?_)
  refine lv_istore (lv' := [(7, .int v9), (6, .int (iI (lawC [2, 4] k : Int))), (5, .int (iI (i : Int))), (4, .ref od), (3, .ref o), (2, .ref (hm 0)), (1, .ref (h0 0)), (0, .ref b)]) hx hb dL_law_529 hl (by decide) rfl (fun ls hl => ?_)
  refine lv_aload_n hx hb dL_law_531 rfl (lv_at hl 5 rfl) ?_
  refine xCallH (w2 := LW cA ad hm hr h0 o od (fU k f v.toInt64) g sm9 t9 r9) (xRunV (n := 0) (As := []) (rest := []) ⟨hx, hb, hml, hown, hts⟩ (kX13_thrown l D cA hm _ N sm9 _ rfl) qco_X13_thrown qml_L_184 qin_X13_thrown qse_X13_thrown qini_X13 (by decide +kernel) (by rw [eR]; rfl) hK hP hD (mid 0 8) (LW_mC _ _ _ _ _ _ _ _ _ _ _ _) (mid_nd _ _) (q0 := 0) rfl rfl rfl rfl rfl hl.1 rfl (lv_room (Nat.le_of_ble_eq_true rfl)) dL_law_532 ⟨by rw [eR]; show cells + 1 ≤ 603072; omega, by rw [eR]; show slots + 6 ≤ 7198826; omega⟩) hP hD hS hA (mid 0 8) (LW_mC _ _ _ _ _ _ _ _ _ _ _ _) rfl (LW_mH _ _ _ _ _ _ _ _ _ _ _ _ _) (fun H locs hP hD hS => ?_)
  refine lv_iload hx hb dL_law_535 (lv_at hl 1 rfl) ?_
  refine lv_icmp_eq (tgt := 542) hx hb dL_law_537 (by decide) (fun _ => ?_) (fun c9 => absurd hth c9)
  refine lv_iload hx hb dL_law_542 (lv_at hl 1 rfl) ?_
  refine lv_if_ne (tgt := 559) hx hb dL_law_544 (by decide) (fun c9 => ?_) (fun c9 => ?_)
  · refine lv_goto (tgt := 3247) hx hb dL_law_559 (by decide) ?_
    refine W.widen (k := cells + 3) (n := slots + 18) (by omega) (by omega) ?_
    exact kk _ _ _ _ _ hI9 _ _ hP hD hS _ (lv_sub hl [2, 3, 4, 5, 6, 7] rfl)
  · have hk : k = 0 := Classical.byContradiction fun hk => lawC_nz hk (by decide) c9
    subst hk
    have hvv := hv rfl
    subst hvv
    refine lv_aload_n hx hb dL_law_547 rfl (lv_at hl 4 rfl) ?_
    refine lv_iconst (v := 0) hx hb dL_law_548 (by decide) ?_
    refine va_lald hx hb hK hP 8 2 rfl rfl (x_lit (n := 1) (k := 0) (by decide)).1 dL_law_549 ?_
    rw [fU_0]
    refine lv_iload hx hb dL_law_550 (lv_at hl 0 rfl) ?_
    refine lv_i2l (v := v.toInt64) hx hb dL_law_552 rfl ?_
    refine W.lcmp hx hb dL_law_553 ?_
    rw [lg_self]
    refine lv_if_eq (tgt := 559) hx hb dL_law_554 (by decide) (fun _ => ?_) (fun c9 => absurd rfl c9)
    refine lv_goto (tgt := 3247) hx hb dL_law_559 (by decide) ?_
    refine W.widen (k := cells + 3) (n := slots + 18) (by omega) (by omega) ?_
    exact kk _ _ _ _ _ hI9 _ _ hP hD hS _ (lv_sub hl [2, 3, 4, 5, 6, 7] rfl)
set_option maxRecDepth 100000 in
set_option maxHeartbeats 4000000 in
theorem v_prompt (C : LC p l R s m args c D cA ad A b L xs) (hN : 2000 ≤ N) (hi : i + 6 ≤ L) (hI : IV n s0 s1 sm) (hn : n + 1 ≤ 512) (hcl : cells + 3 ≤ 603072) (hsl : slots + 18 ≤ 7198826) (hP : va_P D vwCl (LW cA ad hm hr h0 o od f g sm s0 s1) H) (hD : va_D A (LW cA ad hm hr h0 o od f g sm s0 s1)) (hS : va_S A s.heap H locs) (hl : lv_has ls 9 [(5, .int (iI (i : Int))), (4, .ref od), (3, .ref o), (2, .ref (hm 0)), (1, .ref (h0 0)), (0, .ref b)])
    (kk : LK p l e R s m args below meth c cells slots Q D cA ad A b hm hr h0 o od i n) : W p l e R s m args below meth c H locs cells slots Q (F0 m 562 ls []) := by
  obtain ⟨⟨hx, hb, hml, hown, hts⟩, hl9, eR, hN9, hE, hV, hX, hK, hA, hXs, hbl, hbA, hL9⟩ := C
  have hst := st_prompt (t := s0) (r := s1) (s := sm) hN hI hn (xs (i + 1)) (xs (i + 2)) (xs (i + 3)) (xs (i + 4)) (xs (i + 5))
  obtain ⟨k, v, v9, t9, r9, sm9, hc9, hm9, hth, hq, hv, hI9⟩ := hst
  refine lv_aload_n hx hb dL_law_562 rfl (lv_at hl 4 rfl) ?_
  refine lv_aload_n hx hb dL_law_563 rfl (lv_at hl 5 rfl) ?_
  refine lv_iload hx hb dL_law_564 (lv_at hl 0 rfl) ?_
  refine lv_iconst (v := 1) hx hb dL_law_566 (by decide) ?_
  refine lv_iadd hx hb dL_law_567 ?_
  refine vSld hx hb hXs hbl hbA hS (k := i + 1) (sIx1 hi hL9) dL_law_568 ?_
  refine lv_aload_n hx hb dL_law_569 rfl (lv_at hl 5 rfl) ?_
  refine lv_iload hx hb dL_law_570 (lv_at hl 0 rfl) ?_
  refine lv_iconst (v := 2) hx hb dL_law_572 (by decide) ?_
  refine lv_iadd hx hb dL_law_573 ?_
  refine vSld hx hb hXs hbl hbA hS (k := i + 2) (sIx2 hi hL9) dL_law_574 ?_
  refine lv_aload_n hx hb dL_law_575 rfl (lv_at hl 5 rfl) ?_
  refine lv_iload hx hb dL_law_576 (lv_at hl 0 rfl) ?_
  refine lv_iconst (v := 3) hx hb dL_law_578 (by decide) ?_
  refine lv_iadd hx hb dL_law_579 ?_
  refine vSld hx hb hXs hbl hbA hS (k := i + 3) (sIx3 hi hL9) dL_law_580 ?_
  refine lv_aload_n hx hb dL_law_581 rfl (lv_at hl 5 rfl) ?_
  refine lv_iload hx hb dL_law_582 (lv_at hl 0 rfl) ?_
  refine lv_iconst (v := 4) hx hb dL_law_584 (by decide) ?_
  refine lv_iadd hx hb dL_law_585 ?_
  refine vSld hx hb hXs hbl hbA hS (k := i + 4) (sIx4 hi hL9) dL_law_586 ?_
  refine lv_aload_n hx hb dL_law_587 rfl (lv_at hl 5 rfl) ?_
  refine lv_iload hx hb dL_law_588 (lv_at hl 0 rfl) ?_
  refine lv_iconst (v := 5) hx hb dL_law_590 (by decide) ?_
  refine lv_iadd hx hb dL_law_591 ?_
  refine vSld hx hb hXs hbl hbA hS (k := i + 5) (sIx5 hi hL9) dL_law_592 ?_
  refine lv_aload_n hx hb dL_law_593 rfl (lv_at hl 2 rfl) ?_
  refine hCall (w2 := LW cA ad hm hr h0 o od (fU k f v.toInt64) g sm t9 r9) (hRunS (n := 7) (As := [.ref (h0 0), .int (xs (i + 1)), .int (xs (i + 2)), .int (xs (i + 3)), .int (xs (i + 4)), .int (xs (i + 5)), .ref o]) (rest := []) ⟨hx, hb, hml, hown, hts⟩ (h_prompt l hl9 D cA ad hr h0 o od _ N ((xs (i + 1))) ((xs (i + 2))) ((xs (i + 3))) ((xs (i + 4))) ((xs (i + 5))) f g s0 s1 k v t9 r9 hc9 hq) qcw_L_prompt qml_L_198 qst_L_prompt qini_L (by decide +kernel) (by rw [eR]; rfl) hN9 hE hV hX hS hA hK hP hD (mid 8 288) (LW_hC _ _ _ _ _ _ _ _ _ _ _ _) (mid_nd _ _) rfl rfl hl.1 rfl (lv_room (Nat.le_of_ble_eq_true rfl)) dL_law_594 ⟨by rw [eR]; show cells + 2 ≤ 603072; omega, by rw [eR]; show slots + 12 ≤ 7198826; omega⟩) hP hD hS hA (mid 8 288) (LW_hC _ _ _ _ _ _ _ _ _ _ _ _) (HW_fst _ _ _ _ _ _ _ _ _ _ _ _ _ _) (LW_hH _ _ _ _ _ _ _ _ _ _ _ _ _ _ _ _) (fun H locs hP hD hS => ?_)
  refine lv_istore (lv' := [(6, .int (iI (lawC [1, 3, 4] k : Int))), (5, .int (iI (i : Int))), (4, .ref od), (3, .ref o), (2, .ref (hm 0)), (1, .ref (h0 0)), (0, .ref b)]) hx hb dL_law_597 hl (by decide) rfl (fun ls hl => ?_)
  refine lv_aload_n hx hb dL_law_599 rfl (lv_at hl 4 rfl) ?_
  refine lv_aload_n hx hb dL_law_600 rfl (lv_at hl 6 rfl) ?_
  refine lv_iload hx hb dL_law_601 (lv_at hl 1 rfl) ?_
  refine lv_iconst (v := 1) hx hb dL_law_603 (by decide) ?_
  refine lv_iadd hx hb dL_law_604 ?_
  refine vSld hx hb hXs hbl hbA hS (k := i + 1) (sIx1 hi hL9) dL_law_605 ?_
  refine lv_aload_n hx hb dL_law_606 rfl (lv_at hl 6 rfl) ?_
  refine lv_iload hx hb dL_law_607 (lv_at hl 1 rfl) ?_
  refine lv_iconst (v := 2) hx hb dL_law_609 (by decide) ?_
  refine lv_iadd hx hb dL_law_610 ?_
  refine vSld hx hb hXs hbl hbA hS (k := i + 2) (sIx2 hi hL9) dL_law_611 ?_
  refine lv_aload_n hx hb dL_law_612 rfl (lv_at hl 6 rfl) ?_
  refine lv_iload hx hb dL_law_613 (lv_at hl 1 rfl) ?_
  refine lv_iconst (v := 3) hx hb dL_law_615 (by decide) ?_
  refine lv_iadd hx hb dL_law_616 ?_
  refine vSld hx hb hXs hbl hbA hS (k := i + 3) (sIx3 hi hL9) dL_law_617 ?_
  refine lv_aload_n hx hb dL_law_618 rfl (lv_at hl 6 rfl) ?_
  refine lv_iload hx hb dL_law_619 (lv_at hl 1 rfl) ?_
  refine lv_iconst (v := 4) hx hb dL_law_621 (by decide) ?_
  refine lv_iadd hx hb dL_law_622 ?_
  refine vSld hx hb hXs hbl hbA hS (k := i + 4) (sIx4 hi hL9) dL_law_623 ?_
  refine lv_aload_n hx hb dL_law_624 rfl (lv_at hl 6 rfl) ?_
  refine lv_iload hx hb dL_law_625 (lv_at hl 1 rfl) ?_
  refine lv_iconst (v := 5) hx hb dL_law_627 (by decide) ?_
  refine lv_iadd hx hb dL_law_628 ?_
  refine vSld hx hb hXs hbl hbA hS (k := i + 5) (sIx5 hi hL9) dL_law_629 ?_
  refine xCallH (w2 := LW cA ad hm hr h0 o od (fU k f v.toInt64) g sm9 t9 r9) (xRunV (n := 5) (As := [.int (xs (i + 1)), .int (xs (i + 2)), .int (xs (i + 3)), .int (xs (i + 4)), .int (xs (i + 5))]) (rest := []) ⟨hx, hb, hml, hown, hts⟩ (kX13_prompt l D cA hm _ N ((xs (i + 1))) ((xs (i + 2))) ((xs (i + 3))) ((xs (i + 4))) ((xs (i + 5))) sm (v9, sm9) hm9) qco_X13_prompt qml_L_201 qin_X13_prompt qse_X13_prompt qini_X13 (by decide +kernel) (by rw [eR]; rfl) hK hP hD (mid 0 8) (LW_mC _ _ _ _ _ _ _ _ _ _ _ _) (mid_nd _ _) (q0 := 0) rfl rfl rfl rfl rfl hl.1 rfl (lv_room (Nat.le_of_ble_eq_true rfl)) dL_law_630 ⟨by rw [eR]; show cells + 2 ≤ 603072; omega, by rw [eR]; show slots + 12 ≤ 7198826; omega⟩) hP hD hS hA (mid 0 8) (LW_mC _ _ _ _ _ _ _ _ _ _ _ _) rfl (LW_mH _ _ _ _ _ _ _ _ _ _ _ _ _) (fun H locs hP hD hS => ?_)
  refine lv_istore (lv' := [(7, .int v9), (6, .int (iI (lawC [1, 3, 4] k : Int))), (5, .int (iI (i : Int))), (4, .ref od), (3, .ref o), (2, .ref (hm 0)), (1, .ref (h0 0)), (0, .ref b)]) hx hb dL_law_633 hl (by decide) rfl (fun ls hl => ?_)
  refine lv_aload_n hx hb dL_law_635 rfl (lv_at hl 5 rfl) ?_
  refine xCallH (w2 := LW cA ad hm hr h0 o od (fU k f v.toInt64) g sm9 t9 r9) (xRunV (n := 0) (As := []) (rest := []) ⟨hx, hb, hml, hown, hts⟩ (kX13_thrown l D cA hm _ N sm9 _ rfl) qco_X13_thrown qml_L_184 qin_X13_thrown qse_X13_thrown qini_X13 (by decide +kernel) (by rw [eR]; rfl) hK hP hD (mid 0 8) (LW_mC _ _ _ _ _ _ _ _ _ _ _ _) (mid_nd _ _) (q0 := 0) rfl rfl rfl rfl rfl hl.1 rfl (lv_room (Nat.le_of_ble_eq_true rfl)) dL_law_636 ⟨by rw [eR]; show cells + 2 ≤ 603072; omega, by rw [eR]; show slots + 12 ≤ 7198826; omega⟩) hP hD hS hA (mid 0 8) (LW_mC _ _ _ _ _ _ _ _ _ _ _ _) rfl (LW_mH _ _ _ _ _ _ _ _ _ _ _ _ _) (fun H locs hP hD hS => ?_)
  refine lv_iload hx hb dL_law_639 (lv_at hl 1 rfl) ?_
  refine lv_icmp_eq (tgt := 646) hx hb dL_law_641 (by decide) (fun _ => ?_) (fun c9 => absurd hth c9)
  refine lv_iload hx hb dL_law_646 (lv_at hl 1 rfl) ?_
  refine lv_if_ne (tgt := 663) hx hb dL_law_648 (by decide) (fun c9 => ?_) (fun c9 => ?_)
  · refine lv_goto (tgt := 3247) hx hb dL_law_663 (by decide) ?_
    refine W.widen (k := cells + 3) (n := slots + 18) (by omega) (by omega) ?_
    exact kk _ _ _ _ _ hI9 _ _ hP hD hS _ (lv_sub hl [2, 3, 4, 5, 6, 7] rfl)
  · have hk : k = 0 := Classical.byContradiction fun hk => lawC_nz hk (by decide) c9
    subst hk
    have hvv := hv rfl
    subst hvv
    refine lv_aload_n hx hb dL_law_651 rfl (lv_at hl 4 rfl) ?_
    refine lv_iconst (v := 0) hx hb dL_law_652 (by decide) ?_
    refine va_lald hx hb hK hP 8 2 rfl rfl (x_lit (n := 1) (k := 0) (by decide)).1 dL_law_653 ?_
    rw [fU_0]
    refine lv_iload hx hb dL_law_654 (lv_at hl 0 rfl) ?_
    refine lv_i2l (v := v.toInt64) hx hb dL_law_656 rfl ?_
    refine W.lcmp hx hb dL_law_657 ?_
    rw [lg_self]
    refine lv_if_eq (tgt := 663) hx hb dL_law_658 (by decide) (fun _ => ?_) (fun c9 => absurd rfl c9)
    refine lv_goto (tgt := 3247) hx hb dL_law_663 (by decide) ?_
    refine W.widen (k := cells + 3) (n := slots + 18) (by omega) (by omega) ?_
    exact kk _ _ _ _ _ hI9 _ _ hP hD hS _ (lv_sub hl [2, 3, 4, 5, 6, 7] rfl)
set_option maxRecDepth 100000 in
set_option maxHeartbeats 4000000 in
theorem v_cancelPrompt (C : LC p l R s m args c D cA ad A b L xs) (hN : 2000 ≤ N) (hi : i + 6 ≤ L) (hI : IV n s0 s1 sm) (hn : n + 1 ≤ 512) (hcl : cells + 3 ≤ 603072) (hsl : slots + 18 ≤ 7198826) (hP : va_P D vwCl (LW cA ad hm hr h0 o od f g sm s0 s1) H) (hD : va_D A (LW cA ad hm hr h0 o od f g sm s0 s1)) (hS : va_S A s.heap H locs) (hl : lv_has ls 9 [(5, .int (iI (i : Int))), (4, .ref od), (3, .ref o), (2, .ref (hm 0)), (1, .ref (h0 0)), (0, .ref b)])
    (kk : LK p l e R s m args below meth c cells slots Q D cA ad A b hm hr h0 o od i n) : W p l e R s m args below meth c H locs cells slots Q (F0 m 666 ls []) := by
  obtain ⟨⟨hx, hb, hml, hown, hts⟩, hl9, eR, hN9, hE, hV, hX, hK, hA, hXs, hbl, hbA, hL9⟩ := C
  have hst := st_cancelPrompt (t := s0) (r := s1) (s := sm) hN hI hn (xs (i + 1))
  obtain ⟨k, v, v9, t9, r9, sm9, hc9, hm9, hth, hq, hv, hI9⟩ := hst
  refine lv_aload_n hx hb dL_law_666 rfl (lv_at hl 4 rfl) ?_
  refine lv_aload_n hx hb dL_law_667 rfl (lv_at hl 5 rfl) ?_
  refine lv_iload hx hb dL_law_668 (lv_at hl 0 rfl) ?_
  refine lv_iconst (v := 1) hx hb dL_law_670 (by decide) ?_
  refine lv_iadd hx hb dL_law_671 ?_
  refine vSld hx hb hXs hbl hbA hS (k := i + 1) (sIx1 hi hL9) dL_law_672 ?_
  refine lv_aload_n hx hb dL_law_673 rfl (lv_at hl 2 rfl) ?_
  refine hCall (w2 := LW cA ad hm hr h0 o od (fU k f v.toInt64) g sm t9 r9) (hRunS (n := 3) (As := [.ref (h0 0), .int (xs (i + 1)), .ref o]) (rest := []) ⟨hx, hb, hml, hown, hts⟩ (h_cancelPrompt l hl9 D cA ad hr h0 o od _ N ((xs (i + 1))) f g s0 s1 k v t9 r9 hc9 hq) qcw_L_cancelPrompt qml_L_202 qst_L_cancelPrompt qini_L (by decide +kernel) (by rw [eR]; rfl) hN9 hE hV hX hS hA hK hP hD (mid 8 288) (LW_hC _ _ _ _ _ _ _ _ _ _ _ _) (mid_nd _ _) rfl rfl hl.1 rfl (lv_room (Nat.le_of_ble_eq_true rfl)) dL_law_674 ⟨by rw [eR]; show cells + 1 ≤ 603072; omega, by rw [eR]; show slots + 6 ≤ 7198826; omega⟩) hP hD hS hA (mid 8 288) (LW_hC _ _ _ _ _ _ _ _ _ _ _ _) (HW_fst _ _ _ _ _ _ _ _ _ _ _ _ _ _) (LW_hH _ _ _ _ _ _ _ _ _ _ _ _ _ _ _ _) (fun H locs hP hD hS => ?_)
  refine lv_istore (lv' := [(6, .int (iI (lawC [1] k : Int))), (5, .int (iI (i : Int))), (4, .ref od), (3, .ref o), (2, .ref (hm 0)), (1, .ref (h0 0)), (0, .ref b)]) hx hb dL_law_677 hl (by decide) rfl (fun ls hl => ?_)
  refine lv_aload_n hx hb dL_law_679 rfl (lv_at hl 4 rfl) ?_
  refine lv_aload_n hx hb dL_law_680 rfl (lv_at hl 6 rfl) ?_
  refine lv_iload hx hb dL_law_681 (lv_at hl 1 rfl) ?_
  refine lv_iconst (v := 1) hx hb dL_law_683 (by decide) ?_
  refine lv_iadd hx hb dL_law_684 ?_
  refine vSld hx hb hXs hbl hbA hS (k := i + 1) (sIx1 hi hL9) dL_law_685 ?_
  refine xCallH (w2 := LW cA ad hm hr h0 o od (fU k f v.toInt64) g sm9 t9 r9) (xRunV (n := 1) (As := [.int (xs (i + 1))]) (rest := []) ⟨hx, hb, hml, hown, hts⟩ (kX13_cancelPrompt l D cA hm _ N ((xs (i + 1))) sm (v9, sm9) hm9) qco_X13_cancelPrompt qml_L_204 qin_X13_cancelPrompt qse_X13_cancelPrompt qini_X13 (by decide +kernel) (by rw [eR]; rfl) hK hP hD (mid 0 8) (LW_mC _ _ _ _ _ _ _ _ _ _ _ _) (mid_nd _ _) (q0 := 0) rfl rfl rfl rfl rfl hl.1 rfl (lv_room (Nat.le_of_ble_eq_true rfl)) dL_law_686 ⟨by rw [eR]; show cells + 1 ≤ 603072; omega, by rw [eR]; show slots + 6 ≤ 7198826; omega⟩) hP hD hS hA (mid 0 8) (LW_mC _ _ _ _ _ _ _ _ _ _ _ _) rfl (LW_mH _ _ _ _ _ _ _ _ _ _ _ _ _) (fun H locs hP hD hS => ?_)
  refine lv_istore (lv' := [(7, .int v9), (6, .int (iI (lawC [1] k : Int))), (5, .int (iI (i : Int))), (4, .ref od), (3, .ref o), (2, .ref (hm 0)), (1, .ref (h0 0)), (0, .ref b)]) hx hb dL_law_689 hl (by decide) rfl (fun ls hl => ?_)
  refine lv_aload_n hx hb dL_law_691 rfl (lv_at hl 5 rfl) ?_
  refine xCallH (w2 := LW cA ad hm hr h0 o od (fU k f v.toInt64) g sm9 t9 r9) (xRunV (n := 0) (As := []) (rest := []) ⟨hx, hb, hml, hown, hts⟩ (kX13_thrown l D cA hm _ N sm9 _ rfl) qco_X13_thrown qml_L_184 qin_X13_thrown qse_X13_thrown qini_X13 (by decide +kernel) (by rw [eR]; rfl) hK hP hD (mid 0 8) (LW_mC _ _ _ _ _ _ _ _ _ _ _ _) (mid_nd _ _) (q0 := 0) rfl rfl rfl rfl rfl hl.1 rfl (lv_room (Nat.le_of_ble_eq_true rfl)) dL_law_692 ⟨by rw [eR]; show cells + 1 ≤ 603072; omega, by rw [eR]; show slots + 6 ≤ 7198826; omega⟩) hP hD hS hA (mid 0 8) (LW_mC _ _ _ _ _ _ _ _ _ _ _ _) rfl (LW_mH _ _ _ _ _ _ _ _ _ _ _ _ _) (fun H locs hP hD hS => ?_)
  refine lv_iload hx hb dL_law_695 (lv_at hl 1 rfl) ?_
  refine lv_icmp_eq (tgt := 702) hx hb dL_law_697 (by decide) (fun _ => ?_) (fun c9 => absurd hth c9)
  refine lv_iload hx hb dL_law_702 (lv_at hl 1 rfl) ?_
  refine lv_if_ne (tgt := 719) hx hb dL_law_704 (by decide) (fun c9 => ?_) (fun c9 => ?_)
  · refine lv_goto (tgt := 3247) hx hb dL_law_719 (by decide) ?_
    refine W.widen (k := cells + 3) (n := slots + 18) (by omega) (by omega) ?_
    exact kk _ _ _ _ _ hI9 _ _ hP hD hS _ (lv_sub hl [2, 3, 4, 5, 6, 7] rfl)
  · have hk : k = 0 := Classical.byContradiction fun hk => lawC_nz hk (by decide) c9
    subst hk
    have hvv := hv rfl
    subst hvv
    refine lv_aload_n hx hb dL_law_707 rfl (lv_at hl 4 rfl) ?_
    refine lv_iconst (v := 0) hx hb dL_law_708 (by decide) ?_
    refine va_lald hx hb hK hP 8 2 rfl rfl (x_lit (n := 1) (k := 0) (by decide)).1 dL_law_709 ?_
    rw [fU_0]
    refine lv_iload hx hb dL_law_710 (lv_at hl 0 rfl) ?_
    refine lv_i2l (v := v.toInt64) hx hb dL_law_712 rfl ?_
    refine W.lcmp hx hb dL_law_713 ?_
    rw [lg_self]
    refine lv_if_eq (tgt := 719) hx hb dL_law_714 (by decide) (fun _ => ?_) (fun c9 => absurd rfl c9)
    refine lv_goto (tgt := 3247) hx hb dL_law_719 (by decide) ?_
    refine W.widen (k := cells + 3) (n := slots + 18) (by omega) (by omega) ?_
    exact kk _ _ _ _ _ hI9 _ _ hP hD hS _ (lv_sub hl [2, 3, 4, 5, 6, 7] rfl)
set_option maxRecDepth 100000 in
set_option maxHeartbeats 4000000 in
theorem v_passHours (C : LC p l R s m args c D cA ad A b L xs) (hN : 2000 ≤ N) (hi : i + 6 ≤ L) (hI : IV n s0 s1 sm) (hn : n + 1 ≤ 512) (hcl : cells + 3 ≤ 603072) (hsl : slots + 18 ≤ 7198826) (hP : va_P D vwCl (LW cA ad hm hr h0 o od f g sm s0 s1) H) (hD : va_D A (LW cA ad hm hr h0 o od f g sm s0 s1)) (hS : va_S A s.heap H locs) (hl : lv_has ls 9 [(5, .int (iI (i : Int))), (4, .ref od), (3, .ref o), (2, .ref (hm 0)), (1, .ref (h0 0)), (0, .ref b)])
    (kk : LK p l e R s m args below meth c cells slots Q D cA ad A b hm hr h0 o od i n) : W p l e R s m args below meth c H locs cells slots Q (F0 m 722 ls []) := by
  obtain ⟨⟨hx, hb, hml, hown, hts⟩, hl9, eR, hN9, hE, hV, hX, hK, hA, hXs, hbl, hbA, hL9⟩ := C
  have hst := st_passHours (t := s0) (r := s1) (s := sm) hN hI hn (xs (i + 1))
  obtain ⟨k, v, v9, t9, r9, sm9, hc9, hm9, hth, hq, hv, hI9⟩ := hst
  refine lv_aload_n hx hb dL_law_722 rfl (lv_at hl 4 rfl) ?_
  refine lv_aload_n hx hb dL_law_723 rfl (lv_at hl 5 rfl) ?_
  refine lv_iload hx hb dL_law_724 (lv_at hl 0 rfl) ?_
  refine lv_iconst (v := 1) hx hb dL_law_726 (by decide) ?_
  refine lv_iadd hx hb dL_law_727 ?_
  refine vSld hx hb hXs hbl hbA hS (k := i + 1) (sIx1 hi hL9) dL_law_728 ?_
  refine lv_aload_n hx hb dL_law_729 rfl (lv_at hl 2 rfl) ?_
  refine hCall (w2 := LW cA ad hm hr h0 o od (fU k f v.toInt64) g sm t9 r9) (hRunS (n := 3) (As := [.ref (h0 0), .int (xs (i + 1)), .ref o]) (rest := []) ⟨hx, hb, hml, hown, hts⟩ (h_passHours l hl9 D cA ad hr h0 o od _ N ((xs (i + 1))) f g s0 s1 k v t9 r9 hc9 hq) qcw_L_passHours qml_L_205 qst_L_passHours qini_L (by decide +kernel) (by rw [eR]; rfl) hN9 hE hV hX hS hA hK hP hD (mid 8 288) (LW_hC _ _ _ _ _ _ _ _ _ _ _ _) (mid_nd _ _) rfl rfl hl.1 rfl (lv_room (Nat.le_of_ble_eq_true rfl)) dL_law_730 ⟨by rw [eR]; show cells + 1 ≤ 603072; omega, by rw [eR]; show slots + 6 ≤ 7198826; omega⟩) hP hD hS hA (mid 8 288) (LW_hC _ _ _ _ _ _ _ _ _ _ _ _) (HW_fst _ _ _ _ _ _ _ _ _ _ _ _ _ _) (LW_hH _ _ _ _ _ _ _ _ _ _ _ _ _ _ _ _) (fun H locs hP hD hS => ?_)
  refine lv_istore (lv' := [(6, .int (iI (lawC [3] k : Int))), (5, .int (iI (i : Int))), (4, .ref od), (3, .ref o), (2, .ref (hm 0)), (1, .ref (h0 0)), (0, .ref b)]) hx hb dL_law_733 hl (by decide) rfl (fun ls hl => ?_)
  refine lv_aload_n hx hb dL_law_735 rfl (lv_at hl 4 rfl) ?_
  refine lv_aload_n hx hb dL_law_736 rfl (lv_at hl 6 rfl) ?_
  refine lv_iload hx hb dL_law_737 (lv_at hl 1 rfl) ?_
  refine lv_iconst (v := 1) hx hb dL_law_739 (by decide) ?_
  refine lv_iadd hx hb dL_law_740 ?_
  refine vSld hx hb hXs hbl hbA hS (k := i + 1) (sIx1 hi hL9) dL_law_741 ?_
  refine xCallH (w2 := LW cA ad hm hr h0 o od (fU k f v.toInt64) g sm9 t9 r9) (xRunV (n := 1) (As := [.int (xs (i + 1))]) (rest := []) ⟨hx, hb, hml, hown, hts⟩ (kX13_passHours l D cA hm _ N ((xs (i + 1))) sm (v9, sm9) hm9) qco_X13_passHours qml_L_207 qin_X13_passHours qse_X13_passHours qini_X13 (by decide +kernel) (by rw [eR]; rfl) hK hP hD (mid 0 8) (LW_mC _ _ _ _ _ _ _ _ _ _ _ _) (mid_nd _ _) (q0 := 0) rfl rfl rfl rfl rfl hl.1 rfl (lv_room (Nat.le_of_ble_eq_true rfl)) dL_law_742 ⟨by rw [eR]; show cells + 1 ≤ 603072; omega, by rw [eR]; show slots + 6 ≤ 7198826; omega⟩) hP hD hS hA (mid 0 8) (LW_mC _ _ _ _ _ _ _ _ _ _ _ _) rfl (LW_mH _ _ _ _ _ _ _ _ _ _ _ _ _) (fun H locs hP hD hS => ?_)
  refine lv_istore (lv' := [(7, .int v9), (6, .int (iI (lawC [3] k : Int))), (5, .int (iI (i : Int))), (4, .ref od), (3, .ref o), (2, .ref (hm 0)), (1, .ref (h0 0)), (0, .ref b)]) hx hb dL_law_745 hl (by decide) rfl (fun ls hl => ?_)
  refine lv_aload_n hx hb dL_law_747 rfl (lv_at hl 5 rfl) ?_
  refine xCallH (w2 := LW cA ad hm hr h0 o od (fU k f v.toInt64) g sm9 t9 r9) (xRunV (n := 0) (As := []) (rest := []) ⟨hx, hb, hml, hown, hts⟩ (kX13_thrown l D cA hm _ N sm9 _ rfl) qco_X13_thrown qml_L_184 qin_X13_thrown qse_X13_thrown qini_X13 (by decide +kernel) (by rw [eR]; rfl) hK hP hD (mid 0 8) (LW_mC _ _ _ _ _ _ _ _ _ _ _ _) (mid_nd _ _) (q0 := 0) rfl rfl rfl rfl rfl hl.1 rfl (lv_room (Nat.le_of_ble_eq_true rfl)) dL_law_748 ⟨by rw [eR]; show cells + 1 ≤ 603072; omega, by rw [eR]; show slots + 6 ≤ 7198826; omega⟩) hP hD hS hA (mid 0 8) (LW_mC _ _ _ _ _ _ _ _ _ _ _ _) rfl (LW_mH _ _ _ _ _ _ _ _ _ _ _ _ _) (fun H locs hP hD hS => ?_)
  refine lv_iload hx hb dL_law_751 (lv_at hl 1 rfl) ?_
  refine lv_icmp_eq (tgt := 758) hx hb dL_law_753 (by decide) (fun _ => ?_) (fun c9 => absurd hth c9)
  refine lv_iload hx hb dL_law_758 (lv_at hl 1 rfl) ?_
  refine lv_if_ne (tgt := 775) hx hb dL_law_760 (by decide) (fun c9 => ?_) (fun c9 => ?_)
  · refine lv_goto (tgt := 3247) hx hb dL_law_775 (by decide) ?_
    refine W.widen (k := cells + 3) (n := slots + 18) (by omega) (by omega) ?_
    exact kk _ _ _ _ _ hI9 _ _ hP hD hS _ (lv_sub hl [2, 3, 4, 5, 6, 7] rfl)
  · have hk : k = 0 := Classical.byContradiction fun hk => lawC_nz hk (by decide) c9
    subst hk
    have hvv := hv rfl
    subst hvv
    refine lv_aload_n hx hb dL_law_763 rfl (lv_at hl 4 rfl) ?_
    refine lv_iconst (v := 0) hx hb dL_law_764 (by decide) ?_
    refine va_lald hx hb hK hP 8 2 rfl rfl (x_lit (n := 1) (k := 0) (by decide)).1 dL_law_765 ?_
    rw [fU_0]
    refine lv_iload hx hb dL_law_766 (lv_at hl 0 rfl) ?_
    refine lv_i2l (v := v.toInt64) hx hb dL_law_768 rfl ?_
    refine W.lcmp hx hb dL_law_769 ?_
    rw [lg_self]
    refine lv_if_eq (tgt := 775) hx hb dL_law_770 (by decide) (fun _ => ?_) (fun c9 => absurd rfl c9)
    refine lv_goto (tgt := 3247) hx hb dL_law_775 (by decide) ?_
    refine W.widen (k := cells + 3) (n := slots + 18) (by omega) (by omega) ?_
    exact kk _ _ _ _ _ hI9 _ _ hP hD hS _ (lv_sub hl [2, 3, 4, 5, 6, 7] rfl)
set_option maxRecDepth 100000 in
set_option maxHeartbeats 4000000 in
theorem v_buy (C : LC p l R s m args c D cA ad A b L xs) (hN : 2000 ≤ N) (hi : i + 6 ≤ L) (hI : IV n s0 s1 sm) (hn : n + 1 ≤ 512) (hcl : cells + 3 ≤ 603072) (hsl : slots + 18 ≤ 7198826) (hP : va_P D vwCl (LW cA ad hm hr h0 o od f g sm s0 s1) H) (hD : va_D A (LW cA ad hm hr h0 o od f g sm s0 s1)) (hS : va_S A s.heap H locs) (hl : lv_has ls 9 [(5, .int (iI (i : Int))), (4, .ref od), (3, .ref o), (2, .ref (hm 0)), (1, .ref (h0 0)), (0, .ref b)])
    (kk : LK p l e R s m args below meth c cells slots Q D cA ad A b hm hr h0 o od i n) : W p l e R s m args below meth c H locs cells slots Q (F0 m 778 ls []) := by
  obtain ⟨⟨hx, hb, hml, hown, hts⟩, hl9, eR, hN9, hE, hV, hX, hK, hA, hXs, hbl, hbA, hL9⟩ := C
  have hst := st_buy (t := s0) (r := s1) (s := sm) hN hI hn (xs (i + 1)) (xs (i + 2))
  obtain ⟨k, v, v9, t9, r9, sm9, hc9, hm9, hth, hq, hv, hI9⟩ := hst
  refine lv_aload_n hx hb dL_law_778 rfl (lv_at hl 4 rfl) ?_
  refine lv_aload_n hx hb dL_law_779 rfl (lv_at hl 5 rfl) ?_
  refine lv_iload hx hb dL_law_780 (lv_at hl 0 rfl) ?_
  refine lv_iconst (v := 1) hx hb dL_law_782 (by decide) ?_
  refine lv_iadd hx hb dL_law_783 ?_
  refine vSld hx hb hXs hbl hbA hS (k := i + 1) (sIx1 hi hL9) dL_law_784 ?_
  refine lv_aload_n hx hb dL_law_785 rfl (lv_at hl 5 rfl) ?_
  refine lv_iload hx hb dL_law_786 (lv_at hl 0 rfl) ?_
  refine lv_iconst (v := 2) hx hb dL_law_788 (by decide) ?_
  refine lv_iadd hx hb dL_law_789 ?_
  refine vSld hx hb hXs hbl hbA hS (k := i + 2) (sIx2 hi hL9) dL_law_790 ?_
  refine lv_aload_n hx hb dL_law_791 rfl (lv_at hl 2 rfl) ?_
  refine hCall (w2 := LW cA ad hm hr h0 o od (fU k f v.toInt64) g sm t9 r9) (hRunS (n := 4) (As := [.ref (h0 0), .int (xs (i + 1)), .int (xs (i + 2)), .ref o]) (rest := []) ⟨hx, hb, hml, hown, hts⟩ (h_buy l hl9 D cA ad hr h0 o od _ N ((xs (i + 1))) ((xs (i + 2))) f g s0 s1 k v t9 r9 hc9 hq) qcw_L_buy qml_L_208 qst_L_buy qini_L (by decide +kernel) (by rw [eR]; rfl) hN9 hE hV hX hS hA hK hP hD (mid 8 288) (LW_hC _ _ _ _ _ _ _ _ _ _ _ _) (mid_nd _ _) rfl rfl hl.1 rfl (lv_room (Nat.le_of_ble_eq_true rfl)) dL_law_792 ⟨by rw [eR]; show cells + 1 ≤ 603072; omega, by rw [eR]; show slots + 6 ≤ 7198826; omega⟩) hP hD hS hA (mid 8 288) (LW_hC _ _ _ _ _ _ _ _ _ _ _ _) (HW_fst _ _ _ _ _ _ _ _ _ _ _ _ _ _) (LW_hH _ _ _ _ _ _ _ _ _ _ _ _ _ _ _ _) (fun H locs hP hD hS => ?_)
  refine lv_istore (lv' := [(6, .int (iI (lawC [3, 4, 5] k : Int))), (5, .int (iI (i : Int))), (4, .ref od), (3, .ref o), (2, .ref (hm 0)), (1, .ref (h0 0)), (0, .ref b)]) hx hb dL_law_795 hl (by decide) rfl (fun ls hl => ?_)
  refine lv_aload_n hx hb dL_law_797 rfl (lv_at hl 4 rfl) ?_
  refine lv_aload_n hx hb dL_law_798 rfl (lv_at hl 6 rfl) ?_
  refine lv_iload hx hb dL_law_799 (lv_at hl 1 rfl) ?_
  refine lv_iconst (v := 1) hx hb dL_law_801 (by decide) ?_
  refine lv_iadd hx hb dL_law_802 ?_
  refine vSld hx hb hXs hbl hbA hS (k := i + 1) (sIx1 hi hL9) dL_law_803 ?_
  refine lv_aload_n hx hb dL_law_804 rfl (lv_at hl 6 rfl) ?_
  refine lv_iload hx hb dL_law_805 (lv_at hl 1 rfl) ?_
  refine lv_iconst (v := 2) hx hb dL_law_807 (by decide) ?_
  refine lv_iadd hx hb dL_law_808 ?_
  refine vSld hx hb hXs hbl hbA hS (k := i + 2) (sIx2 hi hL9) dL_law_809 ?_
  refine xCallH (w2 := LW cA ad hm hr h0 o od (fU k f v.toInt64) g sm9 t9 r9) (xRunV (n := 2) (As := [.int (xs (i + 1)), .int (xs (i + 2))]) (rest := []) ⟨hx, hb, hml, hown, hts⟩ (kX13_buy l D cA hm _ N ((xs (i + 1))) ((xs (i + 2))) sm (v9, sm9) hm9) qco_X13_buy qml_L_211 qin_X13_buy qse_X13_buy qini_X13 (by decide +kernel) (by rw [eR]; rfl) hK hP hD (mid 0 8) (LW_mC _ _ _ _ _ _ _ _ _ _ _ _) (mid_nd _ _) (q0 := 0) rfl rfl rfl rfl rfl hl.1 rfl (lv_room (Nat.le_of_ble_eq_true rfl)) dL_law_810 ⟨by rw [eR]; show cells + 1 ≤ 603072; omega, by rw [eR]; show slots + 6 ≤ 7198826; omega⟩) hP hD hS hA (mid 0 8) (LW_mC _ _ _ _ _ _ _ _ _ _ _ _) rfl (LW_mH _ _ _ _ _ _ _ _ _ _ _ _ _) (fun H locs hP hD hS => ?_)
  refine lv_istore (lv' := [(7, .int v9), (6, .int (iI (lawC [3, 4, 5] k : Int))), (5, .int (iI (i : Int))), (4, .ref od), (3, .ref o), (2, .ref (hm 0)), (1, .ref (h0 0)), (0, .ref b)]) hx hb dL_law_813 hl (by decide) rfl (fun ls hl => ?_)
  refine lv_aload_n hx hb dL_law_815 rfl (lv_at hl 5 rfl) ?_
  refine xCallH (w2 := LW cA ad hm hr h0 o od (fU k f v.toInt64) g sm9 t9 r9) (xRunV (n := 0) (As := []) (rest := []) ⟨hx, hb, hml, hown, hts⟩ (kX13_thrown l D cA hm _ N sm9 _ rfl) qco_X13_thrown qml_L_184 qin_X13_thrown qse_X13_thrown qini_X13 (by decide +kernel) (by rw [eR]; rfl) hK hP hD (mid 0 8) (LW_mC _ _ _ _ _ _ _ _ _ _ _ _) (mid_nd _ _) (q0 := 0) rfl rfl rfl rfl rfl hl.1 rfl (lv_room (Nat.le_of_ble_eq_true rfl)) dL_law_816 ⟨by rw [eR]; show cells + 1 ≤ 603072; omega, by rw [eR]; show slots + 6 ≤ 7198826; omega⟩) hP hD hS hA (mid 0 8) (LW_mC _ _ _ _ _ _ _ _ _ _ _ _) rfl (LW_mH _ _ _ _ _ _ _ _ _ _ _ _ _) (fun H locs hP hD hS => ?_)
  refine lv_iload hx hb dL_law_819 (lv_at hl 1 rfl) ?_
  refine lv_icmp_eq (tgt := 826) hx hb dL_law_821 (by decide) (fun _ => ?_) (fun c9 => absurd hth c9)
  refine lv_iload hx hb dL_law_826 (lv_at hl 1 rfl) ?_
  refine lv_if_ne (tgt := 843) hx hb dL_law_828 (by decide) (fun c9 => ?_) (fun c9 => ?_)
  · refine lv_goto (tgt := 3247) hx hb dL_law_843 (by decide) ?_
    refine W.widen (k := cells + 3) (n := slots + 18) (by omega) (by omega) ?_
    exact kk _ _ _ _ _ hI9 _ _ hP hD hS _ (lv_sub hl [2, 3, 4, 5, 6, 7] rfl)
  · have hk : k = 0 := Classical.byContradiction fun hk => lawC_nz hk (by decide) c9
    subst hk
    have hvv := hv rfl
    subst hvv
    refine lv_aload_n hx hb dL_law_831 rfl (lv_at hl 4 rfl) ?_
    refine lv_iconst (v := 0) hx hb dL_law_832 (by decide) ?_
    refine va_lald hx hb hK hP 8 2 rfl rfl (x_lit (n := 1) (k := 0) (by decide)).1 dL_law_833 ?_
    rw [fU_0]
    refine lv_iload hx hb dL_law_834 (lv_at hl 0 rfl) ?_
    refine lv_i2l (v := v.toInt64) hx hb dL_law_836 rfl ?_
    refine W.lcmp hx hb dL_law_837 ?_
    rw [lg_self]
    refine lv_if_eq (tgt := 843) hx hb dL_law_838 (by decide) (fun _ => ?_) (fun c9 => absurd rfl c9)
    refine lv_goto (tgt := 3247) hx hb dL_law_843 (by decide) ?_
    refine W.widen (k := cells + 3) (n := slots + 18) (by omega) (by omega) ?_
    exact kk _ _ _ _ _ hI9 _ _ hP hD hS _ (lv_sub hl [2, 3, 4, 5, 6, 7] rfl)
set_option maxRecDepth 100000 in
set_option maxHeartbeats 4000000 in
theorem v_sell (C : LC p l R s m args c D cA ad A b L xs) (hN : 2000 ≤ N) (hi : i + 6 ≤ L) (hI : IV n s0 s1 sm) (hn : n + 1 ≤ 512) (hcl : cells + 3 ≤ 603072) (hsl : slots + 18 ≤ 7198826) (hP : va_P D vwCl (LW cA ad hm hr h0 o od f g sm s0 s1) H) (hD : va_D A (LW cA ad hm hr h0 o od f g sm s0 s1)) (hS : va_S A s.heap H locs) (hl : lv_has ls 9 [(5, .int (iI (i : Int))), (4, .ref od), (3, .ref o), (2, .ref (hm 0)), (1, .ref (h0 0)), (0, .ref b)])
    (kk : LK p l e R s m args below meth c cells slots Q D cA ad A b hm hr h0 o od i n) : W p l e R s m args below meth c H locs cells slots Q (F0 m 846 ls []) := by
  obtain ⟨⟨hx, hb, hml, hown, hts⟩, hl9, eR, hN9, hE, hV, hX, hK, hA, hXs, hbl, hbA, hL9⟩ := C
  have hst := st_sell (t := s0) (r := s1) (s := sm) hN hI hn (xs (i + 1)) (xs (i + 2))
  obtain ⟨k, v, v9, t9, r9, sm9, hc9, hm9, hth, hq, hv, hI9⟩ := hst
  refine lv_aload_n hx hb dL_law_846 rfl (lv_at hl 4 rfl) ?_
  refine lv_aload_n hx hb dL_law_847 rfl (lv_at hl 5 rfl) ?_
  refine lv_iload hx hb dL_law_848 (lv_at hl 0 rfl) ?_
  refine lv_iconst (v := 1) hx hb dL_law_850 (by decide) ?_
  refine lv_iadd hx hb dL_law_851 ?_
  refine vSld hx hb hXs hbl hbA hS (k := i + 1) (sIx1 hi hL9) dL_law_852 ?_
  refine lv_aload_n hx hb dL_law_853 rfl (lv_at hl 5 rfl) ?_
  refine lv_iload hx hb dL_law_854 (lv_at hl 0 rfl) ?_
  refine lv_iconst (v := 2) hx hb dL_law_856 (by decide) ?_
  refine lv_iadd hx hb dL_law_857 ?_
  refine vSld hx hb hXs hbl hbA hS (k := i + 2) (sIx2 hi hL9) dL_law_858 ?_
  refine lv_aload_n hx hb dL_law_859 rfl (lv_at hl 2 rfl) ?_
  refine hCall (w2 := LW cA ad hm hr h0 o od (fU k f v.toInt64) g sm t9 r9) (hRunS (n := 4) (As := [.ref (h0 0), .int (xs (i + 1)), .int (xs (i + 2)), .ref o]) (rest := []) ⟨hx, hb, hml, hown, hts⟩ (h_sell l hl9 D cA ad hr h0 o od _ N ((xs (i + 1))) ((xs (i + 2))) f g s0 s1 k v t9 r9 hc9 hq) qcw_L_sell qml_L_212 qst_L_sell qini_L (by decide +kernel) (by rw [eR]; rfl) hN9 hE hV hX hS hA hK hP hD (mid 8 288) (LW_hC _ _ _ _ _ _ _ _ _ _ _ _) (mid_nd _ _) rfl rfl hl.1 rfl (lv_room (Nat.le_of_ble_eq_true rfl)) dL_law_860 ⟨by rw [eR]; show cells + 1 ≤ 603072; omega, by rw [eR]; show slots + 6 ≤ 7198826; omega⟩) hP hD hS hA (mid 8 288) (LW_hC _ _ _ _ _ _ _ _ _ _ _ _) (HW_fst _ _ _ _ _ _ _ _ _ _ _ _ _ _) (LW_hH _ _ _ _ _ _ _ _ _ _ _ _ _ _ _ _) (fun H locs hP hD hS => ?_)
  refine lv_istore (lv' := [(6, .int (iI (lawC [3, 4] k : Int))), (5, .int (iI (i : Int))), (4, .ref od), (3, .ref o), (2, .ref (hm 0)), (1, .ref (h0 0)), (0, .ref b)]) hx hb dL_law_863 hl (by decide) rfl (fun ls hl => ?_)
  refine lv_aload_n hx hb dL_law_865 rfl (lv_at hl 4 rfl) ?_
  refine lv_aload_n hx hb dL_law_866 rfl (lv_at hl 6 rfl) ?_
  refine lv_iload hx hb dL_law_867 (lv_at hl 1 rfl) ?_
  refine lv_iconst (v := 1) hx hb dL_law_869 (by decide) ?_
  refine lv_iadd hx hb dL_law_870 ?_
  refine vSld hx hb hXs hbl hbA hS (k := i + 1) (sIx1 hi hL9) dL_law_871 ?_
  refine lv_aload_n hx hb dL_law_872 rfl (lv_at hl 6 rfl) ?_
  refine lv_iload hx hb dL_law_873 (lv_at hl 1 rfl) ?_
  refine lv_iconst (v := 2) hx hb dL_law_875 (by decide) ?_
  refine lv_iadd hx hb dL_law_876 ?_
  refine vSld hx hb hXs hbl hbA hS (k := i + 2) (sIx2 hi hL9) dL_law_877 ?_
  refine xCallH (w2 := LW cA ad hm hr h0 o od (fU k f v.toInt64) g sm9 t9 r9) (xRunV (n := 2) (As := [.int (xs (i + 1)), .int (xs (i + 2))]) (rest := []) ⟨hx, hb, hml, hown, hts⟩ (kX13_sell l D cA hm _ N ((xs (i + 1))) ((xs (i + 2))) sm (v9, sm9) hm9) qco_X13_sell qml_L_214 qin_X13_sell qse_X13_sell qini_X13 (by decide +kernel) (by rw [eR]; rfl) hK hP hD (mid 0 8) (LW_mC _ _ _ _ _ _ _ _ _ _ _ _) (mid_nd _ _) (q0 := 0) rfl rfl rfl rfl rfl hl.1 rfl (lv_room (Nat.le_of_ble_eq_true rfl)) dL_law_878 ⟨by rw [eR]; show cells + 1 ≤ 603072; omega, by rw [eR]; show slots + 6 ≤ 7198826; omega⟩) hP hD hS hA (mid 0 8) (LW_mC _ _ _ _ _ _ _ _ _ _ _ _) rfl (LW_mH _ _ _ _ _ _ _ _ _ _ _ _ _) (fun H locs hP hD hS => ?_)
  refine lv_istore (lv' := [(7, .int v9), (6, .int (iI (lawC [3, 4] k : Int))), (5, .int (iI (i : Int))), (4, .ref od), (3, .ref o), (2, .ref (hm 0)), (1, .ref (h0 0)), (0, .ref b)]) hx hb dL_law_881 hl (by decide) rfl (fun ls hl => ?_)
  refine lv_aload_n hx hb dL_law_883 rfl (lv_at hl 5 rfl) ?_
  refine xCallH (w2 := LW cA ad hm hr h0 o od (fU k f v.toInt64) g sm9 t9 r9) (xRunV (n := 0) (As := []) (rest := []) ⟨hx, hb, hml, hown, hts⟩ (kX13_thrown l D cA hm _ N sm9 _ rfl) qco_X13_thrown qml_L_184 qin_X13_thrown qse_X13_thrown qini_X13 (by decide +kernel) (by rw [eR]; rfl) hK hP hD (mid 0 8) (LW_mC _ _ _ _ _ _ _ _ _ _ _ _) (mid_nd _ _) (q0 := 0) rfl rfl rfl rfl rfl hl.1 rfl (lv_room (Nat.le_of_ble_eq_true rfl)) dL_law_884 ⟨by rw [eR]; show cells + 1 ≤ 603072; omega, by rw [eR]; show slots + 6 ≤ 7198826; omega⟩) hP hD hS hA (mid 0 8) (LW_mC _ _ _ _ _ _ _ _ _ _ _ _) rfl (LW_mH _ _ _ _ _ _ _ _ _ _ _ _ _) (fun H locs hP hD hS => ?_)
  refine lv_iload hx hb dL_law_887 (lv_at hl 1 rfl) ?_
  refine lv_icmp_eq (tgt := 894) hx hb dL_law_889 (by decide) (fun _ => ?_) (fun c9 => absurd hth c9)
  refine lv_iload hx hb dL_law_894 (lv_at hl 1 rfl) ?_
  refine lv_if_ne (tgt := 911) hx hb dL_law_896 (by decide) (fun c9 => ?_) (fun c9 => ?_)
  · refine lv_goto (tgt := 3247) hx hb dL_law_911 (by decide) ?_
    refine W.widen (k := cells + 3) (n := slots + 18) (by omega) (by omega) ?_
    exact kk _ _ _ _ _ hI9 _ _ hP hD hS _ (lv_sub hl [2, 3, 4, 5, 6, 7] rfl)
  · have hk : k = 0 := Classical.byContradiction fun hk => lawC_nz hk (by decide) c9
    subst hk
    have hvv := hv rfl
    subst hvv
    refine lv_aload_n hx hb dL_law_899 rfl (lv_at hl 4 rfl) ?_
    refine lv_iconst (v := 0) hx hb dL_law_900 (by decide) ?_
    refine va_lald hx hb hK hP 8 2 rfl rfl (x_lit (n := 1) (k := 0) (by decide)).1 dL_law_901 ?_
    rw [fU_0]
    refine lv_iload hx hb dL_law_902 (lv_at hl 0 rfl) ?_
    refine lv_i2l (v := v.toInt64) hx hb dL_law_904 rfl ?_
    refine W.lcmp hx hb dL_law_905 ?_
    rw [lg_self]
    refine lv_if_eq (tgt := 911) hx hb dL_law_906 (by decide) (fun _ => ?_) (fun c9 => absurd rfl c9)
    refine lv_goto (tgt := 3247) hx hb dL_law_911 (by decide) ?_
    refine W.widen (k := cells + 3) (n := slots + 18) (by omega) (by omega) ?_
    exact kk _ _ _ _ _ hI9 _ _ hP hD hS _ (lv_sub hl [2, 3, 4, 5, 6, 7] rfl)
set_option maxRecDepth 100000 in
set_option maxHeartbeats 4000000 in
theorem v_bill (C : LC p l R s m args c D cA ad A b L xs) (hN : 2000 ≤ N) (hi : i + 6 ≤ L) (hI : IV n s0 s1 sm) (hn : n + 1 ≤ 512) (hcl : cells + 3 ≤ 603072) (hsl : slots + 18 ≤ 7198826) (hP : va_P D vwCl (LW cA ad hm hr h0 o od f g sm s0 s1) H) (hD : va_D A (LW cA ad hm hr h0 o od f g sm s0 s1)) (hS : va_S A s.heap H locs) (hl : lv_has ls 9 [(5, .int (iI (i : Int))), (4, .ref od), (3, .ref o), (2, .ref (hm 0)), (1, .ref (h0 0)), (0, .ref b)])
    (kk : LK p l e R s m args below meth c cells slots Q D cA ad A b hm hr h0 o od i n) : W p l e R s m args below meth c H locs cells slots Q (F0 m 914 ls []) := by
  obtain ⟨⟨hx, hb, hml, hown, hts⟩, hl9, eR, hN9, hE, hV, hX, hK, hA, hXs, hbl, hbA, hL9⟩ := C
  have hst := st_bill (t := s0) (r := s1) (s := sm) hN hI hn (xs (i + 1))
  obtain ⟨k, v, v9, t9, r9, sm9, hc9, hm9, hth, hq, hv, hI9⟩ := hst
  refine lv_aload_n hx hb dL_law_914 rfl (lv_at hl 4 rfl) ?_
  refine lv_aload_n hx hb dL_law_915 rfl (lv_at hl 5 rfl) ?_
  refine lv_iload hx hb dL_law_916 (lv_at hl 0 rfl) ?_
  refine lv_iconst (v := 1) hx hb dL_law_918 (by decide) ?_
  refine lv_iadd hx hb dL_law_919 ?_
  refine vSld hx hb hXs hbl hbA hS (k := i + 1) (sIx1 hi hL9) dL_law_920 ?_
  refine lv_aload_n hx hb dL_law_921 rfl (lv_at hl 2 rfl) ?_
  refine hCall (w2 := LW cA ad hm hr h0 o od (fU k f v.toInt64) g sm t9 r9) (hRunS (n := 3) (As := [.ref (h0 0), .int (xs (i + 1)), .ref o]) (rest := []) ⟨hx, hb, hml, hown, hts⟩ (h_bill l hl9 D cA ad hr h0 o od _ N ((xs (i + 1))) f g s0 s1 k v t9 r9 hc9 hq) qcw_L_bill qml_L_215 qst_L_bill qini_L (by decide +kernel) (by rw [eR]; rfl) hN9 hE hV hX hS hA hK hP hD (mid 8 288) (LW_hC _ _ _ _ _ _ _ _ _ _ _ _) (mid_nd _ _) rfl rfl hl.1 rfl (lv_room (Nat.le_of_ble_eq_true rfl)) dL_law_922 ⟨by rw [eR]; show cells + 1 ≤ 603072; omega, by rw [eR]; show slots + 6 ≤ 7198826; omega⟩) hP hD hS hA (mid 8 288) (LW_hC _ _ _ _ _ _ _ _ _ _ _ _) (HW_fst _ _ _ _ _ _ _ _ _ _ _ _ _ _) (LW_hH _ _ _ _ _ _ _ _ _ _ _ _ _ _ _ _) (fun H locs hP hD hS => ?_)
  refine lv_istore (lv' := [(6, .int (iI (lawC [3, 4] k : Int))), (5, .int (iI (i : Int))), (4, .ref od), (3, .ref o), (2, .ref (hm 0)), (1, .ref (h0 0)), (0, .ref b)]) hx hb dL_law_925 hl (by decide) rfl (fun ls hl => ?_)
  refine lv_aload_n hx hb dL_law_927 rfl (lv_at hl 4 rfl) ?_
  refine lv_aload_n hx hb dL_law_928 rfl (lv_at hl 6 rfl) ?_
  refine lv_iload hx hb dL_law_929 (lv_at hl 1 rfl) ?_
  refine lv_iconst (v := 1) hx hb dL_law_931 (by decide) ?_
  refine lv_iadd hx hb dL_law_932 ?_
  refine vSld hx hb hXs hbl hbA hS (k := i + 1) (sIx1 hi hL9) dL_law_933 ?_
  refine xCallH (w2 := LW cA ad hm hr h0 o od (fU k f v.toInt64) g sm9 t9 r9) (xRunV (n := 1) (As := [.int (xs (i + 1))]) (rest := []) ⟨hx, hb, hml, hown, hts⟩ (kX13_bill l D cA hm _ N ((xs (i + 1))) sm (v9, sm9) hm9) qco_X13_bill qml_L_217 qin_X13_bill qse_X13_bill qini_X13 (by decide +kernel) (by rw [eR]; rfl) hK hP hD (mid 0 8) (LW_mC _ _ _ _ _ _ _ _ _ _ _ _) (mid_nd _ _) (q0 := 0) rfl rfl rfl rfl rfl hl.1 rfl (lv_room (Nat.le_of_ble_eq_true rfl)) dL_law_934 ⟨by rw [eR]; show cells + 1 ≤ 603072; omega, by rw [eR]; show slots + 6 ≤ 7198826; omega⟩) hP hD hS hA (mid 0 8) (LW_mC _ _ _ _ _ _ _ _ _ _ _ _) rfl (LW_mH _ _ _ _ _ _ _ _ _ _ _ _ _) (fun H locs hP hD hS => ?_)
  refine lv_istore (lv' := [(7, .int v9), (6, .int (iI (lawC [3, 4] k : Int))), (5, .int (iI (i : Int))), (4, .ref od), (3, .ref o), (2, .ref (hm 0)), (1, .ref (h0 0)), (0, .ref b)]) hx hb dL_law_937 hl (by decide) rfl (fun ls hl => ?_)
  refine lv_aload_n hx hb dL_law_939 rfl (lv_at hl 5 rfl) ?_
  refine xCallH (w2 := LW cA ad hm hr h0 o od (fU k f v.toInt64) g sm9 t9 r9) (xRunV (n := 0) (As := []) (rest := []) ⟨hx, hb, hml, hown, hts⟩ (kX13_thrown l D cA hm _ N sm9 _ rfl) qco_X13_thrown qml_L_184 qin_X13_thrown qse_X13_thrown qini_X13 (by decide +kernel) (by rw [eR]; rfl) hK hP hD (mid 0 8) (LW_mC _ _ _ _ _ _ _ _ _ _ _ _) (mid_nd _ _) (q0 := 0) rfl rfl rfl rfl rfl hl.1 rfl (lv_room (Nat.le_of_ble_eq_true rfl)) dL_law_940 ⟨by rw [eR]; show cells + 1 ≤ 603072; omega, by rw [eR]; show slots + 6 ≤ 7198826; omega⟩) hP hD hS hA (mid 0 8) (LW_mC _ _ _ _ _ _ _ _ _ _ _ _) rfl (LW_mH _ _ _ _ _ _ _ _ _ _ _ _ _) (fun H locs hP hD hS => ?_)
  refine lv_iload hx hb dL_law_943 (lv_at hl 1 rfl) ?_
  refine lv_icmp_eq (tgt := 950) hx hb dL_law_945 (by decide) (fun _ => ?_) (fun c9 => absurd hth c9)
  refine lv_iload hx hb dL_law_950 (lv_at hl 1 rfl) ?_
  refine lv_if_ne (tgt := 967) hx hb dL_law_952 (by decide) (fun c9 => ?_) (fun c9 => ?_)
  · refine lv_goto (tgt := 3247) hx hb dL_law_967 (by decide) ?_
    refine W.widen (k := cells + 3) (n := slots + 18) (by omega) (by omega) ?_
    exact kk _ _ _ _ _ hI9 _ _ hP hD hS _ (lv_sub hl [2, 3, 4, 5, 6, 7] rfl)
  · have hk : k = 0 := Classical.byContradiction fun hk => lawC_nz hk (by decide) c9
    subst hk
    have hvv := hv rfl
    subst hvv
    refine lv_aload_n hx hb dL_law_955 rfl (lv_at hl 4 rfl) ?_
    refine lv_iconst (v := 0) hx hb dL_law_956 (by decide) ?_
    refine va_lald hx hb hK hP 8 2 rfl rfl (x_lit (n := 1) (k := 0) (by decide)).1 dL_law_957 ?_
    rw [fU_0]
    refine lv_iload hx hb dL_law_958 (lv_at hl 0 rfl) ?_
    refine lv_i2l (v := v.toInt64) hx hb dL_law_960 rfl ?_
    refine W.lcmp hx hb dL_law_961 ?_
    rw [lg_self]
    refine lv_if_eq (tgt := 967) hx hb dL_law_962 (by decide) (fun _ => ?_) (fun c9 => absurd rfl c9)
    refine lv_goto (tgt := 3247) hx hb dL_law_967 (by decide) ?_
    refine W.widen (k := cells + 3) (n := slots + 18) (by omega) (by omega) ?_
    exact kk _ _ _ _ _ hI9 _ _ hP hD hS _ (lv_sub hl [2, 3, 4, 5, 6, 7] rfl)
set_option maxRecDepth 100000 in
set_option maxHeartbeats 4000000 in
theorem v_pay (C : LC p l R s m args c D cA ad A b L xs) (hN : 2000 ≤ N) (hi : i + 6 ≤ L) (hI : IV n s0 s1 sm) (hn : n + 1 ≤ 512) (hcl : cells + 3 ≤ 603072) (hsl : slots + 18 ≤ 7198826) (hP : va_P D vwCl (LW cA ad hm hr h0 o od f g sm s0 s1) H) (hD : va_D A (LW cA ad hm hr h0 o od f g sm s0 s1)) (hS : va_S A s.heap H locs) (hl : lv_has ls 9 [(5, .int (iI (i : Int))), (4, .ref od), (3, .ref o), (2, .ref (hm 0)), (1, .ref (h0 0)), (0, .ref b)])
    (kk : LK p l e R s m args below meth c cells slots Q D cA ad A b hm hr h0 o od i n) : W p l e R s m args below meth c H locs cells slots Q (F0 m 970 ls []) := by
  obtain ⟨⟨hx, hb, hml, hown, hts⟩, hl9, eR, hN9, hE, hV, hX, hK, hA, hXs, hbl, hbA, hL9⟩ := C
  have hst := st_pay (t := s0) (r := s1) (s := sm) hN hI hn (xs (i + 1))
  obtain ⟨k, v, v9, t9, r9, sm9, hc9, hm9, hth, hq, hv, hI9⟩ := hst
  refine lv_aload_n hx hb dL_law_970 rfl (lv_at hl 4 rfl) ?_
  refine lv_aload_n hx hb dL_law_971 rfl (lv_at hl 5 rfl) ?_
  refine lv_iload hx hb dL_law_972 (lv_at hl 0 rfl) ?_
  refine lv_iconst (v := 1) hx hb dL_law_974 (by decide) ?_
  refine lv_iadd hx hb dL_law_975 ?_
  refine vSld hx hb hXs hbl hbA hS (k := i + 1) (sIx1 hi hL9) dL_law_976 ?_
  refine lv_aload_n hx hb dL_law_977 rfl (lv_at hl 2 rfl) ?_
  refine hCall (w2 := LW cA ad hm hr h0 o od (fU k f v.toInt64) g sm t9 r9) (hRunS (n := 3) (As := [.ref (h0 0), .int (xs (i + 1)), .ref o]) (rest := []) ⟨hx, hb, hml, hown, hts⟩ (h_pay l hl9 D cA ad hr h0 o od _ N ((xs (i + 1))) f g s0 s1 k v t9 r9 hc9 hq) qcw_L_pay qml_L_218 qst_L_pay qini_L (by decide +kernel) (by rw [eR]; rfl) hN9 hE hV hX hS hA hK hP hD (mid 8 288) (LW_hC _ _ _ _ _ _ _ _ _ _ _ _) (mid_nd _ _) rfl rfl hl.1 rfl (lv_room (Nat.le_of_ble_eq_true rfl)) dL_law_978 ⟨by rw [eR]; show cells + 1 ≤ 603072; omega, by rw [eR]; show slots + 6 ≤ 7198826; omega⟩) hP hD hS hA (mid 8 288) (LW_hC _ _ _ _ _ _ _ _ _ _ _ _) (HW_fst _ _ _ _ _ _ _ _ _ _ _ _ _ _) (LW_hH _ _ _ _ _ _ _ _ _ _ _ _ _ _ _ _) (fun H locs hP hD hS => ?_)
  refine lv_istore (lv' := [(6, .int (iI (lawC [3, 4] k : Int))), (5, .int (iI (i : Int))), (4, .ref od), (3, .ref o), (2, .ref (hm 0)), (1, .ref (h0 0)), (0, .ref b)]) hx hb dL_law_981 hl (by decide) rfl (fun ls hl => ?_)
  refine lv_aload_n hx hb dL_law_983 rfl (lv_at hl 4 rfl) ?_
  refine lv_aload_n hx hb dL_law_984 rfl (lv_at hl 6 rfl) ?_
  refine lv_iload hx hb dL_law_985 (lv_at hl 1 rfl) ?_
  refine lv_iconst (v := 1) hx hb dL_law_987 (by decide) ?_
  refine lv_iadd hx hb dL_law_988 ?_
  refine vSld hx hb hXs hbl hbA hS (k := i + 1) (sIx1 hi hL9) dL_law_989 ?_
  refine xCallH (w2 := LW cA ad hm hr h0 o od (fU k f v.toInt64) g sm9 t9 r9) (xRunV (n := 1) (As := [.int (xs (i + 1))]) (rest := []) ⟨hx, hb, hml, hown, hts⟩ (kX13_pay l D cA hm _ N ((xs (i + 1))) sm (v9, sm9) hm9) qco_X13_pay qml_L_220 qin_X13_pay qse_X13_pay qini_X13 (by decide +kernel) (by rw [eR]; rfl) hK hP hD (mid 0 8) (LW_mC _ _ _ _ _ _ _ _ _ _ _ _) (mid_nd _ _) (q0 := 0) rfl rfl rfl rfl rfl hl.1 rfl (lv_room (Nat.le_of_ble_eq_true rfl)) dL_law_990 ⟨by rw [eR]; show cells + 1 ≤ 603072; omega, by rw [eR]; show slots + 6 ≤ 7198826; omega⟩) hP hD hS hA (mid 0 8) (LW_mC _ _ _ _ _ _ _ _ _ _ _ _) rfl (LW_mH _ _ _ _ _ _ _ _ _ _ _ _ _) (fun H locs hP hD hS => ?_)
  refine lv_istore (lv' := [(7, .int v9), (6, .int (iI (lawC [3, 4] k : Int))), (5, .int (iI (i : Int))), (4, .ref od), (3, .ref o), (2, .ref (hm 0)), (1, .ref (h0 0)), (0, .ref b)]) hx hb dL_law_993 hl (by decide) rfl (fun ls hl => ?_)
  refine lv_aload_n hx hb dL_law_995 rfl (lv_at hl 5 rfl) ?_
  refine xCallH (w2 := LW cA ad hm hr h0 o od (fU k f v.toInt64) g sm9 t9 r9) (xRunV (n := 0) (As := []) (rest := []) ⟨hx, hb, hml, hown, hts⟩ (kX13_thrown l D cA hm _ N sm9 _ rfl) qco_X13_thrown qml_L_184 qin_X13_thrown qse_X13_thrown qini_X13 (by decide +kernel) (by rw [eR]; rfl) hK hP hD (mid 0 8) (LW_mC _ _ _ _ _ _ _ _ _ _ _ _) (mid_nd _ _) (q0 := 0) rfl rfl rfl rfl rfl hl.1 rfl (lv_room (Nat.le_of_ble_eq_true rfl)) dL_law_996 ⟨by rw [eR]; show cells + 1 ≤ 603072; omega, by rw [eR]; show slots + 6 ≤ 7198826; omega⟩) hP hD hS hA (mid 0 8) (LW_mC _ _ _ _ _ _ _ _ _ _ _ _) rfl (LW_mH _ _ _ _ _ _ _ _ _ _ _ _ _) (fun H locs hP hD hS => ?_)
  refine lv_iload hx hb dL_law_999 (lv_at hl 1 rfl) ?_
  refine lv_icmp_eq (tgt := 1006) hx hb dL_law_1001 (by decide) (fun _ => ?_) (fun c9 => absurd hth c9)
  refine lv_iload hx hb dL_law_1006 (lv_at hl 1 rfl) ?_
  refine lv_if_ne (tgt := 1023) hx hb dL_law_1008 (by decide) (fun c9 => ?_) (fun c9 => ?_)
  · refine lv_goto (tgt := 3247) hx hb dL_law_1023 (by decide) ?_
    refine W.widen (k := cells + 3) (n := slots + 18) (by omega) (by omega) ?_
    exact kk _ _ _ _ _ hI9 _ _ hP hD hS _ (lv_sub hl [2, 3, 4, 5, 6, 7] rfl)
  · have hk : k = 0 := Classical.byContradiction fun hk => lawC_nz hk (by decide) c9
    subst hk
    have hvv := hv rfl
    subst hvv
    refine lv_aload_n hx hb dL_law_1011 rfl (lv_at hl 4 rfl) ?_
    refine lv_iconst (v := 0) hx hb dL_law_1012 (by decide) ?_
    refine va_lald hx hb hK hP 8 2 rfl rfl (x_lit (n := 1) (k := 0) (by decide)).1 dL_law_1013 ?_
    rw [fU_0]
    refine lv_iload hx hb dL_law_1014 (lv_at hl 0 rfl) ?_
    refine lv_i2l (v := v.toInt64) hx hb dL_law_1016 rfl ?_
    refine W.lcmp hx hb dL_law_1017 ?_
    rw [lg_self]
    refine lv_if_eq (tgt := 1023) hx hb dL_law_1018 (by decide) (fun _ => ?_) (fun c9 => absurd rfl c9)
    refine lv_goto (tgt := 3247) hx hb dL_law_1023 (by decide) ?_
    refine W.widen (k := cells + 3) (n := slots + 18) (by omega) (by omega) ?_
    exact kk _ _ _ _ _ hI9 _ _ hP hD hS _ (lv_sub hl [2, 3, 4, 5, 6, 7] rfl)
set_option maxRecDepth 100000 in
set_option maxHeartbeats 4000000 in
theorem v_hour (C : LC p l R s m args c D cA ad A b L xs) (hN : 2000 ≤ N) (hi : i + 6 ≤ L) (hI : IV n s0 s1 sm) (hn : n + 1 ≤ 512) (hcl : cells + 3 ≤ 603072) (hsl : slots + 18 ≤ 7198826) (hP : va_P D vwCl (LW cA ad hm hr h0 o od f g sm s0 s1) H) (hD : va_D A (LW cA ad hm hr h0 o od f g sm s0 s1)) (hS : va_S A s.heap H locs) (hl : lv_has ls 9 [(5, .int (iI (i : Int))), (4, .ref od), (3, .ref o), (2, .ref (hm 0)), (1, .ref (h0 0)), (0, .ref b)])
    (kk : LK p l e R s m args below meth c cells slots Q D cA ad A b hm hr h0 o od i n) : W p l e R s m args below meth c H locs cells slots Q (F0 m 1039 ls []) := by
  obtain ⟨⟨hx, hb, hml, hown, hts⟩, hl9, eR, hN9, hE, hV, hX, hK, hA, hXs, hbl, hbA, hL9⟩ := C
  have hst := st_hour (t := s0) (r := s1) (s := sm) hN hI hn
  obtain ⟨v, sm9, hc9, hm9, hI9⟩ := hst
  refine lv_aload_n hx hb dL_law_1039 rfl (lv_at hl 4 rfl) ?_
  refine xCallH (w2 := LW cA ad hm hr h0 o od f g sm s0 s1) (zRunV (n := 0) (As := []) (rest := []) ⟨hx, hb, hml, hown, hts⟩ (kX12_hour l D cA ad hr h0 _ N s0 v hc9) qco_X12_hour qml_L_225 qin_X12_hour qse_X12_hour qini_X12 (by decide +kernel) (by rw [eR]; rfl) hN9 hE hS hA hK hP hD (mid 10 61) (LW_tC _ _ _ _ _ _ _ _ _ _ _ _) (mid_nd _ _) (q0 := 0) rfl rfl rfl rfl rfl hl.1 rfl (lv_room (Nat.le_of_ble_eq_true rfl)) dL_law_1040 ⟨by rw [eR]; show cells + 0 ≤ 603072; omega, by rw [eR]; show slots + 0 ≤ 7198826; omega⟩) hP hD hS hA (mid 10 61) (LW_tC _ _ _ _ _ _ _ _ _ _ _ _) rfl (LW_tH _ _ _ _ _ _ _ _ _ _ _ _ _) (fun H locs hP hD hS => ?_)
  refine lv_aload_n hx hb dL_law_1043 rfl (lv_at hl 3 rfl) ?_
  refine xCallH (w2 := LW cA ad hm hr h0 o od f g sm9 s0 s1) (xRunV (n := 0) (As := []) (rest := [.int v]) ⟨hx, hb, hml, hown, hts⟩ (kX13_hour l D cA hm _ N sm (v, sm9) hm9) qco_X13_hour qml_L_228 qin_X13_hour qse_X13_hour qini_X13 (by decide +kernel) (by rw [eR]; rfl) hK hP hD (mid 0 8) (LW_mC _ _ _ _ _ _ _ _ _ _ _ _) (mid_nd _ _) (q0 := 0) rfl rfl rfl rfl rfl hl.1 rfl (lv_room (Nat.le_of_ble_eq_true rfl)) dL_law_1044 ⟨by rw [eR]; show cells + 0 ≤ 603072; omega, by rw [eR]; show slots + 0 ≤ 7198826; omega⟩) hP hD hS hA (mid 0 8) (LW_mC _ _ _ _ _ _ _ _ _ _ _ _) rfl (LW_mH _ _ _ _ _ _ _ _ _ _ _ _ _) (fun H locs hP hD hS => ?_)
  refine lv_icmp_eq (tgt := 3247) hx hb dL_law_1047 (by decide) (fun _ => ?_) (fun c9 => absurd rfl c9)
  refine W.widen (k := cells + 3) (n := slots + 18) (by omega) (by omega) ?_
  exact kk _ _ _ _ _ hI9 _ _ hP hD hS _ (lv_sub hl [0, 1, 2, 3, 4, 5] rfl)
set_option maxRecDepth 100000 in
set_option maxHeartbeats 4000000 in
theorem v_accountCount (C : LC p l R s m args c D cA ad A b L xs) (hN : 2000 ≤ N) (hi : i + 6 ≤ L) (hI : IV n s0 s1 sm) (hn : n + 1 ≤ 512) (hcl : cells + 3 ≤ 603072) (hsl : slots + 18 ≤ 7198826) (hP : va_P D vwCl (LW cA ad hm hr h0 o od f g sm s0 s1) H) (hD : va_D A (LW cA ad hm hr h0 o od f g sm s0 s1)) (hS : va_S A s.heap H locs) (hl : lv_has ls 9 [(5, .int (iI (i : Int))), (4, .ref od), (3, .ref o), (2, .ref (hm 0)), (1, .ref (h0 0)), (0, .ref b)])
    (kk : LK p l e R s m args below meth c cells slots Q D cA ad A b hm hr h0 o od i n) : W p l e R s m args below meth c H locs cells slots Q (F0 m 1052 ls []) := by
  obtain ⟨⟨hx, hb, hml, hown, hts⟩, hl9, eR, hN9, hE, hV, hX, hK, hA, hXs, hbl, hbA, hL9⟩ := C
  have hst := st_accountCount (t := s0) (r := s1) (s := sm) hN hI hn
  obtain ⟨v, sm9, hc9, hm9, hI9⟩ := hst
  refine lv_aload_n hx hb dL_law_1052 rfl (lv_at hl 4 rfl) ?_
  refine xCallH (w2 := LW cA ad hm hr h0 o od f g sm s0 s1) (zRunV (n := 0) (As := []) (rest := []) ⟨hx, hb, hml, hown, hts⟩ (kX12_accountCount l D cA ad hr h0 _ N s0 v hc9) qco_X12_accountCount qml_L_229 qin_X12_accountCount qse_X12_accountCount qini_X12 (by decide +kernel) (by rw [eR]; rfl) hN9 hE hS hA hK hP hD (mid 10 61) (LW_tC _ _ _ _ _ _ _ _ _ _ _ _) (mid_nd _ _) (q0 := 0) rfl rfl rfl rfl rfl hl.1 rfl (lv_room (Nat.le_of_ble_eq_true rfl)) dL_law_1053 ⟨by rw [eR]; show cells + 0 ≤ 603072; omega, by rw [eR]; show slots + 0 ≤ 7198826; omega⟩) hP hD hS hA (mid 10 61) (LW_tC _ _ _ _ _ _ _ _ _ _ _ _) rfl (LW_tH _ _ _ _ _ _ _ _ _ _ _ _ _) (fun H locs hP hD hS => ?_)
  refine lv_aload_n hx hb dL_law_1056 rfl (lv_at hl 3 rfl) ?_
  refine xCallH (w2 := LW cA ad hm hr h0 o od f g sm9 s0 s1) (xRunV (n := 0) (As := []) (rest := [.int v]) ⟨hx, hb, hml, hown, hts⟩ (kX13_accountCount l D cA hm _ N sm (v, sm9) hm9) qco_X13_accountCount qml_L_232 qin_X13_accountCount qse_X13_accountCount qini_X13 (by decide +kernel) (by rw [eR]; rfl) hK hP hD (mid 0 8) (LW_mC _ _ _ _ _ _ _ _ _ _ _ _) (mid_nd _ _) (q0 := 0) rfl rfl rfl rfl rfl hl.1 rfl (lv_room (Nat.le_of_ble_eq_true rfl)) dL_law_1057 ⟨by rw [eR]; show cells + 0 ≤ 603072; omega, by rw [eR]; show slots + 0 ≤ 7198826; omega⟩) hP hD hS hA (mid 0 8) (LW_mC _ _ _ _ _ _ _ _ _ _ _ _) rfl (LW_mH _ _ _ _ _ _ _ _ _ _ _ _ _) (fun H locs hP hD hS => ?_)
  refine lv_icmp_eq (tgt := 3247) hx hb dL_law_1060 (by decide) (fun _ => ?_) (fun c9 => absurd rfl c9)
  refine W.widen (k := cells + 3) (n := slots + 18) (by omega) (by omega) ?_
  exact kk _ _ _ _ _ hI9 _ _ hP hD hS _ (lv_sub hl [0, 1, 2, 3, 4, 5] rfl)
set_option maxRecDepth 100000 in
set_option maxHeartbeats 4000000 in
theorem v_kind (C : LC p l R s m args c D cA ad A b L xs) (hN : 2000 ≤ N) (hi : i + 6 ≤ L) (hI : IV n s0 s1 sm) (hn : n + 1 ≤ 512) (hcl : cells + 3 ≤ 603072) (hsl : slots + 18 ≤ 7198826) (hP : va_P D vwCl (LW cA ad hm hr h0 o od f g sm s0 s1) H) (hD : va_D A (LW cA ad hm hr h0 o od f g sm s0 s1)) (hS : va_S A s.heap H locs) (hl : lv_has ls 9 [(5, .int (iI (i : Int))), (4, .ref od), (3, .ref o), (2, .ref (hm 0)), (1, .ref (h0 0)), (0, .ref b)])
    (kk : LK p l e R s m args below meth c cells slots Q D cA ad A b hm hr h0 o od i n) : W p l e R s m args below meth c H locs cells slots Q (F0 m 1065 ls []) := by
  obtain ⟨⟨hx, hb, hml, hown, hts⟩, hl9, eR, hN9, hE, hV, hX, hK, hA, hXs, hbl, hbA, hL9⟩ := C
  have hst := st_kind (t := s0) (r := s1) (s := sm) hN hI hn (xs (i + 1))
  obtain ⟨k, v, v9, sm9, hc9, hm9, hth, hq, hv, hI9⟩ := hst
  refine lv_aload_n hx hb dL_law_1065 rfl (lv_at hl 4 rfl) ?_
  refine lv_aload_n hx hb dL_law_1066 rfl (lv_at hl 5 rfl) ?_
  refine lv_iload hx hb dL_law_1067 (lv_at hl 0 rfl) ?_
  refine lv_iconst (v := 1) hx hb dL_law_1069 (by decide) ?_
  refine lv_iadd hx hb dL_law_1070 ?_
  refine vSld hx hb hXs hbl hbA hS (k := i + 1) (sIx1 hi hL9) dL_law_1071 ?_
  refine lv_aload_n hx hb dL_law_1072 rfl (lv_at hl 2 rfl) ?_
  refine hCall (w2 := LW cA ad hm hr h0 o od (fU k f v.toInt64) g sm s0 s1) (hRunS (n := 3) (As := [.ref (h0 0), .int (xs (i + 1)), .ref o]) (rest := []) ⟨hx, hb, hml, hown, hts⟩ (h_kind l hl9 D cA ad hr h0 o od _ N ((xs (i + 1))) f g s0 s1 k v hc9 hq) qcw_L_kind qml_L_233 qst_L_kind qini_L (by decide +kernel) (by rw [eR]; rfl) hN9 hE hV hX hS hA hK hP hD (mid 8 288) (LW_hC _ _ _ _ _ _ _ _ _ _ _ _) (mid_nd _ _) rfl rfl hl.1 rfl (lv_room (Nat.le_of_ble_eq_true rfl)) dL_law_1073 ⟨by rw [eR]; show cells + 1 ≤ 603072; omega, by rw [eR]; show slots + 6 ≤ 7198826; omega⟩) hP hD hS hA (mid 8 288) (LW_hC _ _ _ _ _ _ _ _ _ _ _ _) (HW_fst _ _ _ _ _ _ _ _ _ _ _ _ _ _) (LW_hH _ _ _ _ _ _ _ _ _ _ _ _ _ _ _ _) (fun H locs hP hD hS => ?_)
  refine lv_istore (lv' := [(6, .int (iI (lawC [1] k : Int))), (5, .int (iI (i : Int))), (4, .ref od), (3, .ref o), (2, .ref (hm 0)), (1, .ref (h0 0)), (0, .ref b)]) hx hb dL_law_1076 hl (by decide) rfl (fun ls hl => ?_)
  refine lv_aload_n hx hb dL_law_1078 rfl (lv_at hl 4 rfl) ?_
  refine lv_aload_n hx hb dL_law_1079 rfl (lv_at hl 6 rfl) ?_
  refine lv_iload hx hb dL_law_1080 (lv_at hl 1 rfl) ?_
  refine lv_iconst (v := 1) hx hb dL_law_1082 (by decide) ?_
  refine lv_iadd hx hb dL_law_1083 ?_
  refine vSld hx hb hXs hbl hbA hS (k := i + 1) (sIx1 hi hL9) dL_law_1084 ?_
  refine xCallH (w2 := LW cA ad hm hr h0 o od (fU k f v.toInt64) g sm9 s0 s1) (xRunV (n := 1) (As := [.int (xs (i + 1))]) (rest := []) ⟨hx, hb, hml, hown, hts⟩ (kX13_kind l D cA hm _ N ((xs (i + 1))) sm (v9, sm9) hm9) qco_X13_kind qml_L_235 qin_X13_kind qse_X13_kind qini_X13 (by decide +kernel) (by rw [eR]; rfl) hK hP hD (mid 0 8) (LW_mC _ _ _ _ _ _ _ _ _ _ _ _) (mid_nd _ _) (q0 := 0) rfl rfl rfl rfl rfl hl.1 rfl (lv_room (Nat.le_of_ble_eq_true rfl)) dL_law_1085 ⟨by rw [eR]; show cells + 1 ≤ 603072; omega, by rw [eR]; show slots + 6 ≤ 7198826; omega⟩) hP hD hS hA (mid 0 8) (LW_mC _ _ _ _ _ _ _ _ _ _ _ _) rfl (LW_mH _ _ _ _ _ _ _ _ _ _ _ _ _) (fun H locs hP hD hS => ?_)
  refine lv_istore (lv' := [(7, .int v9), (6, .int (iI (lawC [1] k : Int))), (5, .int (iI (i : Int))), (4, .ref od), (3, .ref o), (2, .ref (hm 0)), (1, .ref (h0 0)), (0, .ref b)]) hx hb dL_law_1088 hl (by decide) rfl (fun ls hl => ?_)
  refine lv_aload_n hx hb dL_law_1090 rfl (lv_at hl 5 rfl) ?_
  refine xCallH (w2 := LW cA ad hm hr h0 o od (fU k f v.toInt64) g sm9 s0 s1) (xRunV (n := 0) (As := []) (rest := []) ⟨hx, hb, hml, hown, hts⟩ (kX13_thrown l D cA hm _ N sm9 _ rfl) qco_X13_thrown qml_L_184 qin_X13_thrown qse_X13_thrown qini_X13 (by decide +kernel) (by rw [eR]; rfl) hK hP hD (mid 0 8) (LW_mC _ _ _ _ _ _ _ _ _ _ _ _) (mid_nd _ _) (q0 := 0) rfl rfl rfl rfl rfl hl.1 rfl (lv_room (Nat.le_of_ble_eq_true rfl)) dL_law_1091 ⟨by rw [eR]; show cells + 1 ≤ 603072; omega, by rw [eR]; show slots + 6 ≤ 7198826; omega⟩) hP hD hS hA (mid 0 8) (LW_mC _ _ _ _ _ _ _ _ _ _ _ _) rfl (LW_mH _ _ _ _ _ _ _ _ _ _ _ _ _) (fun H locs hP hD hS => ?_)
  refine lv_iload hx hb dL_law_1094 (lv_at hl 1 rfl) ?_
  refine lv_icmp_eq (tgt := 1101) hx hb dL_law_1096 (by decide) (fun _ => ?_) (fun c9 => absurd hth c9)
  refine lv_iload hx hb dL_law_1101 (lv_at hl 1 rfl) ?_
  refine lv_if_ne (tgt := 1118) hx hb dL_law_1103 (by decide) (fun c9 => ?_) (fun c9 => ?_)
  · refine lv_goto (tgt := 3247) hx hb dL_law_1118 (by decide) ?_
    refine W.widen (k := cells + 3) (n := slots + 18) (by omega) (by omega) ?_
    exact kk _ _ _ _ _ hI9 _ _ hP hD hS _ (lv_sub hl [2, 3, 4, 5, 6, 7] rfl)
  · have hk : k = 0 := Classical.byContradiction fun hk => lawC_nz hk (by decide) c9
    subst hk
    have hvv := hv rfl
    subst hvv
    refine lv_aload_n hx hb dL_law_1106 rfl (lv_at hl 4 rfl) ?_
    refine lv_iconst (v := 0) hx hb dL_law_1107 (by decide) ?_
    refine va_lald hx hb hK hP 8 2 rfl rfl (x_lit (n := 1) (k := 0) (by decide)).1 dL_law_1108 ?_
    rw [fU_0]
    refine lv_iload hx hb dL_law_1109 (lv_at hl 0 rfl) ?_
    refine lv_i2l (v := v.toInt64) hx hb dL_law_1111 rfl ?_
    refine W.lcmp hx hb dL_law_1112 ?_
    rw [lg_self]
    refine lv_if_eq (tgt := 1118) hx hb dL_law_1113 (by decide) (fun _ => ?_) (fun c9 => absurd rfl c9)
    refine lv_goto (tgt := 3247) hx hb dL_law_1118 (by decide) ?_
    refine W.widen (k := cells + 3) (n := slots + 18) (by omega) (by omega) ?_
    exact kk _ _ _ _ _ hI9 _ _ hP hD hS _ (lv_sub hl [2, 3, 4, 5, 6, 7] rfl)
set_option maxRecDepth 100000 in
set_option maxHeartbeats 4000000 in
theorem v_parent (C : LC p l R s m args c D cA ad A b L xs) (hN : 2000 ≤ N) (hi : i + 6 ≤ L) (hI : IV n s0 s1 sm) (hn : n + 1 ≤ 512) (hcl : cells + 3 ≤ 603072) (hsl : slots + 18 ≤ 7198826) (hP : va_P D vwCl (LW cA ad hm hr h0 o od f g sm s0 s1) H) (hD : va_D A (LW cA ad hm hr h0 o od f g sm s0 s1)) (hS : va_S A s.heap H locs) (hl : lv_has ls 9 [(5, .int (iI (i : Int))), (4, .ref od), (3, .ref o), (2, .ref (hm 0)), (1, .ref (h0 0)), (0, .ref b)])
    (kk : LK p l e R s m args below meth c cells slots Q D cA ad A b hm hr h0 o od i n) : W p l e R s m args below meth c H locs cells slots Q (F0 m 1121 ls []) := by
  obtain ⟨⟨hx, hb, hml, hown, hts⟩, hl9, eR, hN9, hE, hV, hX, hK, hA, hXs, hbl, hbA, hL9⟩ := C
  have hst := st_parent (t := s0) (r := s1) (s := sm) hN hI hn (xs (i + 1))
  obtain ⟨k, v, v9, sm9, hc9, hm9, hth, hq, hv, hI9⟩ := hst
  refine lv_aload_n hx hb dL_law_1121 rfl (lv_at hl 4 rfl) ?_
  refine lv_aload_n hx hb dL_law_1122 rfl (lv_at hl 5 rfl) ?_
  refine lv_iload hx hb dL_law_1123 (lv_at hl 0 rfl) ?_
  refine lv_iconst (v := 1) hx hb dL_law_1125 (by decide) ?_
  refine lv_iadd hx hb dL_law_1126 ?_
  refine vSld hx hb hXs hbl hbA hS (k := i + 1) (sIx1 hi hL9) dL_law_1127 ?_
  refine lv_aload_n hx hb dL_law_1128 rfl (lv_at hl 2 rfl) ?_
  refine hCall (w2 := LW cA ad hm hr h0 o od (fU k f v.toInt64) g sm s0 s1) (hRunS (n := 3) (As := [.ref (h0 0), .int (xs (i + 1)), .ref o]) (rest := []) ⟨hx, hb, hml, hown, hts⟩ (h_parent l hl9 D cA ad hr h0 o od _ N ((xs (i + 1))) f g s0 s1 k v hc9 hq) qcw_L_parent qml_L_236 qst_L_parent qini_L (by decide +kernel) (by rw [eR]; rfl) hN9 hE hV hX hS hA hK hP hD (mid 8 288) (LW_hC _ _ _ _ _ _ _ _ _ _ _ _) (mid_nd _ _) rfl rfl hl.1 rfl (lv_room (Nat.le_of_ble_eq_true rfl)) dL_law_1129 ⟨by rw [eR]; show cells + 2 ≤ 603072; omega, by rw [eR]; show slots + 12 ≤ 7198826; omega⟩) hP hD hS hA (mid 8 288) (LW_hC _ _ _ _ _ _ _ _ _ _ _ _) (HW_fst _ _ _ _ _ _ _ _ _ _ _ _ _ _) (LW_hH _ _ _ _ _ _ _ _ _ _ _ _ _ _ _ _) (fun H locs hP hD hS => ?_)
  refine lv_istore (lv' := [(6, .int (iI (lawC [1, 2] k : Int))), (5, .int (iI (i : Int))), (4, .ref od), (3, .ref o), (2, .ref (hm 0)), (1, .ref (h0 0)), (0, .ref b)]) hx hb dL_law_1132 hl (by decide) rfl (fun ls hl => ?_)
  refine lv_aload_n hx hb dL_law_1134 rfl (lv_at hl 4 rfl) ?_
  refine lv_aload_n hx hb dL_law_1135 rfl (lv_at hl 6 rfl) ?_
  refine lv_iload hx hb dL_law_1136 (lv_at hl 1 rfl) ?_
  refine lv_iconst (v := 1) hx hb dL_law_1138 (by decide) ?_
  refine lv_iadd hx hb dL_law_1139 ?_
  refine vSld hx hb hXs hbl hbA hS (k := i + 1) (sIx1 hi hL9) dL_law_1140 ?_
  refine xCallH (w2 := LW cA ad hm hr h0 o od (fU k f v.toInt64) g sm9 s0 s1) (xRunV (n := 1) (As := [.int (xs (i + 1))]) (rest := []) ⟨hx, hb, hml, hown, hts⟩ (kX13_parent l D cA hm _ N ((xs (i + 1))) sm (v9, sm9) hm9) qco_X13_parent qml_L_238 qin_X13_parent qse_X13_parent qini_X13 (by decide +kernel) (by rw [eR]; rfl) hK hP hD (mid 0 8) (LW_mC _ _ _ _ _ _ _ _ _ _ _ _) (mid_nd _ _) (q0 := 0) rfl rfl rfl rfl rfl hl.1 rfl (lv_room (Nat.le_of_ble_eq_true rfl)) dL_law_1141 ⟨by rw [eR]; show cells + 2 ≤ 603072; omega, by rw [eR]; show slots + 12 ≤ 7198826; omega⟩) hP hD hS hA (mid 0 8) (LW_mC _ _ _ _ _ _ _ _ _ _ _ _) rfl (LW_mH _ _ _ _ _ _ _ _ _ _ _ _ _) (fun H locs hP hD hS => ?_)
  refine lv_istore (lv' := [(7, .int v9), (6, .int (iI (lawC [1, 2] k : Int))), (5, .int (iI (i : Int))), (4, .ref od), (3, .ref o), (2, .ref (hm 0)), (1, .ref (h0 0)), (0, .ref b)]) hx hb dL_law_1144 hl (by decide) rfl (fun ls hl => ?_)
  refine lv_aload_n hx hb dL_law_1146 rfl (lv_at hl 5 rfl) ?_
  refine xCallH (w2 := LW cA ad hm hr h0 o od (fU k f v.toInt64) g sm9 s0 s1) (xRunV (n := 0) (As := []) (rest := []) ⟨hx, hb, hml, hown, hts⟩ (kX13_thrown l D cA hm _ N sm9 _ rfl) qco_X13_thrown qml_L_184 qin_X13_thrown qse_X13_thrown qini_X13 (by decide +kernel) (by rw [eR]; rfl) hK hP hD (mid 0 8) (LW_mC _ _ _ _ _ _ _ _ _ _ _ _) (mid_nd _ _) (q0 := 0) rfl rfl rfl rfl rfl hl.1 rfl (lv_room (Nat.le_of_ble_eq_true rfl)) dL_law_1147 ⟨by rw [eR]; show cells + 2 ≤ 603072; omega, by rw [eR]; show slots + 12 ≤ 7198826; omega⟩) hP hD hS hA (mid 0 8) (LW_mC _ _ _ _ _ _ _ _ _ _ _ _) rfl (LW_mH _ _ _ _ _ _ _ _ _ _ _ _ _) (fun H locs hP hD hS => ?_)
  refine lv_iload hx hb dL_law_1150 (lv_at hl 1 rfl) ?_
  refine lv_icmp_eq (tgt := 1157) hx hb dL_law_1152 (by decide) (fun _ => ?_) (fun c9 => absurd hth c9)
  refine lv_iload hx hb dL_law_1157 (lv_at hl 1 rfl) ?_
  refine lv_if_ne (tgt := 1174) hx hb dL_law_1159 (by decide) (fun c9 => ?_) (fun c9 => ?_)
  · refine lv_goto (tgt := 3247) hx hb dL_law_1174 (by decide) ?_
    refine W.widen (k := cells + 3) (n := slots + 18) (by omega) (by omega) ?_
    exact kk _ _ _ _ _ hI9 _ _ hP hD hS _ (lv_sub hl [2, 3, 4, 5, 6, 7] rfl)
  · have hk : k = 0 := Classical.byContradiction fun hk => lawC_nz hk (by decide) c9
    subst hk
    have hvv := hv rfl
    subst hvv
    refine lv_aload_n hx hb dL_law_1162 rfl (lv_at hl 4 rfl) ?_
    refine lv_iconst (v := 0) hx hb dL_law_1163 (by decide) ?_
    refine va_lald hx hb hK hP 8 2 rfl rfl (x_lit (n := 1) (k := 0) (by decide)).1 dL_law_1164 ?_
    rw [fU_0]
    refine lv_iload hx hb dL_law_1165 (lv_at hl 0 rfl) ?_
    refine lv_i2l (v := v.toInt64) hx hb dL_law_1167 rfl ?_
    refine W.lcmp hx hb dL_law_1168 ?_
    rw [lg_self]
    refine lv_if_eq (tgt := 1174) hx hb dL_law_1169 (by decide) (fun _ => ?_) (fun c9 => absurd rfl c9)
    refine lv_goto (tgt := 3247) hx hb dL_law_1174 (by decide) ?_
    refine W.widen (k := cells + 3) (n := slots + 18) (by omega) (by omega) ?_
    exact kk _ _ _ _ _ hI9 _ _ hP hD hS _ (lv_sub hl [2, 3, 4, 5, 6, 7] rfl)
set_option maxRecDepth 100000 in
set_option maxHeartbeats 4000000 in
theorem v_credits (C : LC p l R s m args c D cA ad A b L xs) (hN : 2000 ≤ N) (hi : i + 6 ≤ L) (hI : IV n s0 s1 sm) (hn : n + 1 ≤ 512) (hcl : cells + 3 ≤ 603072) (hsl : slots + 18 ≤ 7198826) (hP : va_P D vwCl (LW cA ad hm hr h0 o od f g sm s0 s1) H) (hD : va_D A (LW cA ad hm hr h0 o od f g sm s0 s1)) (hS : va_S A s.heap H locs) (hl : lv_has ls 9 [(5, .int (iI (i : Int))), (4, .ref od), (3, .ref o), (2, .ref (hm 0)), (1, .ref (h0 0)), (0, .ref b)])
    (kk : LK p l e R s m args below meth c cells slots Q D cA ad A b hm hr h0 o od i n) : W p l e R s m args below meth c H locs cells slots Q (F0 m 1232 ls []) := by
  obtain ⟨⟨hx, hb, hml, hown, hts⟩, hl9, eR, hN9, hE, hV, hX, hK, hA, hXs, hbl, hbA, hL9⟩ := C
  have hst := st_credits (t := s0) (r := s1) (s := sm) hN hI hn (xs (i + 1))
  obtain ⟨k, v, v9, sm9, hc9, hm9, hth, hq, hv, hI9⟩ := hst
  refine lv_aload_n hx hb dL_law_1232 rfl (lv_at hl 4 rfl) ?_
  refine lv_aload_n hx hb dL_law_1233 rfl (lv_at hl 5 rfl) ?_
  refine lv_iload hx hb dL_law_1234 (lv_at hl 0 rfl) ?_
  refine lv_iconst (v := 1) hx hb dL_law_1236 (by decide) ?_
  refine lv_iadd hx hb dL_law_1237 ?_
  refine vSld hx hb hXs hbl hbA hS (k := i + 1) (sIx1 hi hL9) dL_law_1238 ?_
  refine lv_aload_n hx hb dL_law_1239 rfl (lv_at hl 2 rfl) ?_
  refine hCall (w2 := LW cA ad hm hr h0 o od (fU k f v) g sm s0 s1) (hRunS (n := 3) (As := [.ref (h0 0), .int (xs (i + 1)), .ref o]) (rest := []) ⟨hx, hb, hml, hown, hts⟩ (h_credits l hl9 D cA ad hr h0 o od _ N ((xs (i + 1))) f g s0 s1 k v hc9 hq) qcw_L_credits qml_L_242 qst_L_credits qini_L (by decide +kernel) (by rw [eR]; rfl) hN9 hE hV hX hS hA hK hP hD (mid 8 288) (LW_hC _ _ _ _ _ _ _ _ _ _ _ _) (mid_nd _ _) rfl rfl hl.1 rfl (lv_room (Nat.le_of_ble_eq_true rfl)) dL_law_1240 ⟨by rw [eR]; show cells + 1 ≤ 603072; omega, by rw [eR]; show slots + 6 ≤ 7198826; omega⟩) hP hD hS hA (mid 8 288) (LW_hC _ _ _ _ _ _ _ _ _ _ _ _) (HW_fst _ _ _ _ _ _ _ _ _ _ _ _ _ _) (LW_hH _ _ _ _ _ _ _ _ _ _ _ _ _ _ _ _) (fun H locs hP hD hS => ?_)
  refine lv_istore (lv' := [(6, .int (iI (lawC [1] k : Int))), (5, .int (iI (i : Int))), (4, .ref od), (3, .ref o), (2, .ref (hm 0)), (1, .ref (h0 0)), (0, .ref b)]) hx hb dL_law_1243 hl (by decide) rfl (fun ls hl => ?_)
  refine lv_aload_n hx hb dL_law_1245 rfl (lv_at hl 4 rfl) ?_
  refine lv_aload_n hx hb dL_law_1246 rfl (lv_at hl 6 rfl) ?_
  refine lv_iload hx hb dL_law_1247 (lv_at hl 1 rfl) ?_
  refine lv_iconst (v := 1) hx hb dL_law_1249 (by decide) ?_
  refine lv_iadd hx hb dL_law_1250 ?_
  refine vSld hx hb hXs hbl hbA hS (k := i + 1) (sIx1 hi hL9) dL_law_1251 ?_
  refine xCallH (w2 := LW cA ad hm hr h0 o od (fU k f v) g sm9 s0 s1) (xRunV (n := 1) (As := [.int (xs (i + 1))]) (rest := []) ⟨hx, hb, hml, hown, hts⟩ (kX13_credits l D cA hm _ N ((xs (i + 1))) sm (v9, sm9) hm9) qco_X13_credits qml_L_244 qin_X13_credits qse_X13_credits qini_X13 (by decide +kernel) (by rw [eR]; rfl) hK hP hD (mid 0 8) (LW_mC _ _ _ _ _ _ _ _ _ _ _ _) (mid_nd _ _) (q0 := 0) rfl rfl rfl rfl rfl hl.1 rfl (lv_room (Nat.le_of_ble_eq_true rfl)) dL_law_1252 ⟨by rw [eR]; show cells + 1 ≤ 603072; omega, by rw [eR]; show slots + 6 ≤ 7198826; omega⟩) hP hD hS hA (mid 0 8) (LW_mC _ _ _ _ _ _ _ _ _ _ _ _) rfl (LW_mH _ _ _ _ _ _ _ _ _ _ _ _ _) (fun H locs hP hD hS => ?_)
  refine lv_lstore (lv' := [(7, .long v9), (6, .int (iI (lawC [1] k : Int))), (5, .int (iI (i : Int))), (4, .ref od), (3, .ref o), (2, .ref (hm 0)), (1, .ref (h0 0)), (0, .ref b)]) hx hb dL_law_1255 hl (by decide) rfl (fun ls hl => ?_)
  refine lv_aload_n hx hb dL_law_1257 rfl (lv_at hl 5 rfl) ?_
  refine xCallH (w2 := LW cA ad hm hr h0 o od (fU k f v) g sm9 s0 s1) (xRunV (n := 0) (As := []) (rest := []) ⟨hx, hb, hml, hown, hts⟩ (kX13_thrown l D cA hm _ N sm9 _ rfl) qco_X13_thrown qml_L_184 qin_X13_thrown qse_X13_thrown qini_X13 (by decide +kernel) (by rw [eR]; rfl) hK hP hD (mid 0 8) (LW_mC _ _ _ _ _ _ _ _ _ _ _ _) (mid_nd _ _) (q0 := 0) rfl rfl rfl rfl rfl hl.1 rfl (lv_room (Nat.le_of_ble_eq_true rfl)) dL_law_1258 ⟨by rw [eR]; show cells + 1 ≤ 603072; omega, by rw [eR]; show slots + 6 ≤ 7198826; omega⟩) hP hD hS hA (mid 0 8) (LW_mC _ _ _ _ _ _ _ _ _ _ _ _) rfl (LW_mH _ _ _ _ _ _ _ _ _ _ _ _ _) (fun H locs hP hD hS => ?_)
  refine lv_iload hx hb dL_law_1261 (lv_at hl 1 rfl) ?_
  refine lv_icmp_eq (tgt := 1268) hx hb dL_law_1263 (by decide) (fun _ => ?_) (fun c9 => absurd hth c9)
  refine lv_iload hx hb dL_law_1268 (lv_at hl 1 rfl) ?_
  refine lv_if_ne (tgt := 1284) hx hb dL_law_1270 (by decide) (fun c9 => ?_) (fun c9 => ?_)
  · refine lv_goto (tgt := 3247) hx hb dL_law_1284 (by decide) ?_
    refine W.widen (k := cells + 3) (n := slots + 18) (by omega) (by omega) ?_
    exact kk _ _ _ _ _ hI9 _ _ hP hD hS _ (lv_sub hl [2, 3, 4, 5, 6, 7] rfl)
  · have hk : k = 0 := Classical.byContradiction fun hk => lawC_nz hk (by decide) c9
    subst hk
    have hvv := hv rfl
    subst hvv
    refine lv_aload_n hx hb dL_law_1273 rfl (lv_at hl 4 rfl) ?_
    refine lv_iconst (v := 0) hx hb dL_law_1274 (by decide) ?_
    refine va_lald hx hb hK hP 8 2 rfl rfl (x_lit (n := 1) (k := 0) (by decide)).1 dL_law_1275 ?_
    rw [fU_0]
    refine lv_lload hx hb dL_law_1276 (lv_at hl 0 rfl) ?_
    refine W.lcmp hx hb dL_law_1278 ?_
    rw [lg_self]
    refine lv_if_eq (tgt := 1284) hx hb dL_law_1279 (by decide) (fun _ => ?_) (fun c9 => absurd rfl c9)
    refine lv_goto (tgt := 3247) hx hb dL_law_1284 (by decide) ?_
    refine W.widen (k := cells + 3) (n := slots + 18) (by omega) (by omega) ?_
    exact kk _ _ _ _ _ hI9 _ _ hP hD hS _ (lv_sub hl [2, 3, 4, 5, 6, 7] rfl)
end CASES
