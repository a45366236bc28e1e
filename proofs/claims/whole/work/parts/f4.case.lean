/-! cases -/
section CASES
variable {p : Program} {l : Launch} {e : Env} {R : Room} {s : State} {m : MethodId} {args : Array Value} {below : List Frame} {meth : Method} {c : Code} {H : Heap} {locs : List Loc} {cells slots : Nat} {Q : State → Prop}
variable {ls : Array Slot} {D : va_G} {cA : Nat → ClassId} {ad : Nat → Nat} {A : Nat → Prop} {b L : Nat} {xs : Nat → Int32} {hm : Nat → Nat} {hr : Nat → Nat → Nat} {h0 : Nat → Nat} {o od N i n : Nat} {f : Nat → Int64} {g : Nat → UInt64} {s0 : ThlS} {s1 : Nat → BooS} {sm : MS}
set_option maxRecDepth 100000 in
set_option maxHeartbeats 4000000 in
theorem v_isInMatch (C : LC p l R s m args c D cA ad A b L xs) (hN : 2000 ≤ N) (hi : i + 6 ≤ L) (hI : IV n s0 s1 sm) (hn : n + 1 ≤ 512) (hcl : cells + 3 ≤ 603072) (hsl : slots + 18 ≤ 7198826) (hP : va_P D vwCl (LW cA ad hm hr h0 o od f g sm s0 s1) H) (hD : va_D A (LW cA ad hm hr h0 o od f g sm s0 s1)) (hS : va_S A s.heap H locs) (hl : lv_has ls 9 [(5, .int (iI (i : Int))), (4, .ref od), (3, .ref o), (2, .ref (hm 0)), (1, .ref (h0 0)), (0, .ref b)])
    (kk : LK p l e R s m args below meth c cells slots Q D cA ad A b hm hr h0 o od i n) : W p l e R s m args below meth c H locs cells slots Q (F0 m 2608 ls []) := by
  obtain ⟨⟨hx, hb, hml, hown, hts⟩, hl9, eR, hN9, hE, hV, hX, hK, hA, hXs, hbl, hbA, hL9⟩ := C
  have hst := st_isInMatch (t := s0) (r := s1) (s := sm) hN hI hn (xs (i + 1)) (xs (i + 2))
  obtain ⟨k, v, v9, t9, sm9, hc9, hm9, hth, hq, hv, hI9⟩ := hst
  refine lv_aload_n hx hb dL_law_2608 rfl (lv_at hl 4 rfl) ?_
  refine lv_aload_n hx hb dL_law_2609 rfl (lv_at hl 5 rfl) ?_
  refine lv_iload hx hb dL_law_2610 (lv_at hl 0 rfl) ?_
  refine lv_iconst (v := 1) hx hb dL_law_2612 (by decide) ?_
  refine lv_iadd hx hb dL_law_2613 ?_
  refine vSld hx hb hXs hbl hbA hS (k := i + 1) (sIx1 hi hL9) dL_law_2614 ?_
  refine lv_aload_n hx hb dL_law_2615 rfl (lv_at hl 5 rfl) ?_
  refine lv_iload hx hb dL_law_2616 (lv_at hl 0 rfl) ?_
  refine lv_iconst (v := 2) hx hb dL_law_2618 (by decide) ?_
  refine lv_iadd hx hb dL_law_2619 ?_
  refine vSld hx hb hXs hbl hbA hS (k := i + 2) (sIx2 hi hL9) dL_law_2620 ?_
  refine lv_aload_n hx hb dL_law_2621 rfl (lv_at hl 2 rfl) ?_
  refine hCall (w2 := LW cA ad hm hr h0 o od (fU k f (hB v)) g sm t9 s1) (hRunS (n := 4) (As := [.ref (h0 0), .int (xs (i + 1)), .int (xs (i + 2)), .ref o]) (rest := []) ⟨hx, hb, hml, hown, hts⟩ (h_isInMatch l hl9 D cA ad hr h0 o od _ N ((xs (i + 1))) ((xs (i + 2))) f g s0 s1 k v t9 hc9 hq) qcw_L_isInMatch qml_L_346 qst_L_isInMatch qini_L (by decide +kernel) (by rw [eR]; rfl) hN9 hE hV hX hS hA hK hP hD (mid 8 288) (LW_hC _ _ _ _ _ _ _ _ _ _ _ _) (mid_nd _ _) rfl rfl hl.1 rfl (lv_room (Nat.le_of_ble_eq_true rfl)) dL_law_2622 ⟨by rw [eR]; show cells + 3 ≤ 603072; omega, by rw [eR]; show slots + 18 ≤ 7198826; omega⟩) hP hD hS hA (mid 8 288) (LW_hC _ _ _ _ _ _ _ _ _ _ _ _) (HW_fst _ _ _ _ _ _ _ _ _ _ _ _ _ _) (LW_hH _ _ _ _ _ _ _ _ _ _ _ _ _ _ _ _) (fun H locs hP hD hS => ?_)
  refine lv_istore (lv' := [(6, .int (iI (lawC [2, 3, 4] k : Int))), (5, .int (iI (i : Int))), (4, .ref od), (3, .ref o), (2, .ref (hm 0)), (1, .ref (h0 0)), (0, .ref b)]) hx hb dL_law_2625 hl (by decide) rfl (fun ls hl => ?_)
  refine lv_aload_n hx hb dL_law_2627 rfl (lv_at hl 4 rfl) ?_
  refine lv_aload_n hx hb dL_law_2628 rfl (lv_at hl 6 rfl) ?_
  refine lv_iload hx hb dL_law_2629 (lv_at hl 1 rfl) ?_
  refine lv_iconst (v := 1) hx hb dL_law_2631 (by decide) ?_
  refine lv_iadd hx hb dL_law_2632 ?_
  refine vSld hx hb hXs hbl hbA hS (k := i + 1) (sIx1 hi hL9) dL_law_2633 ?_
  refine lv_aload_n hx hb dL_law_2634 rfl (lv_at hl 6 rfl) ?_
  refine lv_iload hx hb dL_law_2635 (lv_at hl 1 rfl) ?_
  refine lv_iconst (v := 2) hx hb dL_law_2637 (by decide) ?_
  refine lv_iadd hx hb dL_law_2638 ?_
  refine vSld hx hb hXs hbl hbA hS (k := i + 2) (sIx2 hi hL9) dL_law_2639 ?_
  refine xCallH (w2 := LW cA ad hm hr h0 o od (fU k f (hB v)) g sm9 t9 s1) (xRunV (n := 2) (As := [.int (xs (i + 1)), .int (xs (i + 2))]) (rest := []) ⟨hx, hb, hml, hown, hts⟩ (kX13_isInMatch l D cA hm _ N ((xs (i + 1))) ((xs (i + 2))) sm (v9, sm9) hm9) qco_X13_isInMatch qml_L_348 qin_X13_isInMatch qse_X13_isInMatch qini_X13 (by decide +kernel) (by rw [eR]; rfl) hK hP hD (mid 0 8) (LW_mC _ _ _ _ _ _ _ _ _ _ _ _) (mid_nd _ _) (q0 := 0) rfl rfl rfl rfl rfl hl.1 rfl (lv_room (Nat.le_of_ble_eq_true rfl)) dL_law_2640 ⟨by rw [eR]; show cells + 3 ≤ 603072; omega, by rw [eR]; show slots + 18 ≤ 7198826; omega⟩) hP hD hS hA (mid 0 8) (LW_mC _ _ _ _ _ _ _ _ _ _ _ _) rfl (LW_mH _ _ _ _ _ _ _ _ _ _ _ _ _) (fun H locs hP hD hS => ?_)
  refine lv_istore (lv' := [(7, .int v9), (6, .int (iI (lawC [2, 3, 4] k : Int))), (5, .int (iI (i : Int))), (4, .ref od), (3, .ref o), (2, .ref (hm 0)), (1, .ref (h0 0)), (0, .ref b)]) hx hb dL_law_2643 hl (by decide) rfl (fun ls hl => ?_)
  refine lv_aload_n hx hb dL_law_2645 rfl (lv_at hl 5 rfl) ?_
  refine xCallH (w2 := LW cA ad hm hr h0 o od (fU k f (hB v)) g sm9 t9 s1) (xRunV (n := 0) (As := []) (rest := []) ⟨hx, hb, hml, hown, hts⟩ (kX13_thrown l D cA hm _ N sm9 _ rfl) qco_X13_thrown qml_L_184 qin_X13_thrown qse_X13_thrown qini_X13 (by decide +kernel) (by rw [eR]; rfl) hK hP hD (mid 0 8) (LW_mC _ _ _ _ _ _ _ _ _ _ _ _) (mid_nd _ _) (q0 := 0) rfl rfl rfl rfl rfl hl.1 rfl (lv_room (Nat.le_of_ble_eq_true rfl)) dL_law_2646 ⟨by rw [eR]; show cells + 3 ≤ 603072; omega, by rw [eR]; show slots + 18 ≤ 7198826; omega⟩) hP hD hS hA (mid 0 8) (LW_mC _ _ _ _ _ _ _ _ _ _ _ _) rfl (LW_mH _ _ _ _ _ _ _ _ _ _ _ _ _) (fun H locs hP hD hS => ?_)
  refine lv_iload hx hb dL_law_2649 (lv_at hl 1 rfl) ?_
  refine lv_icmp_eq (tgt := 2656) hx hb dL_law_2651 (by decide) (fun _ => ?_) (fun c9 => absurd hth c9)
  refine lv_iload hx hb dL_law_2656 (lv_at hl 1 rfl) ?_
  refine lv_if_ne (tgt := 2680) hx hb dL_law_2658 (by decide) (fun c9 => ?_) (fun c9 => ?_)
  · refine lv_goto (tgt := 3247) hx hb dL_law_2680 (by decide) ?_
    refine W.widen (k := cells + 3) (n := slots + 18) (by omega) (by omega) ?_
    exact kk _ _ _ _ _ hI9 _ _ hP hD hS _ (lv_sub hl [2, 3, 4, 5, 6, 7] rfl)
  · have hk : k = 0 := Classical.byContradiction fun hk => lawC_nz hk (by decide) c9
    subst hk
    have hvv := hv rfl
    subst hvv
    refine lv_aload_n hx hb dL_law_2661 rfl (lv_at hl 4 rfl) ?_
    refine lv_iconst (v := 0) hx hb dL_law_2662 (by decide) ?_
    refine va_lald hx hb hK hP 8 2 rfl rfl (x_lit (n := 1) (k := 0) (by decide)).1 dL_law_2663 ?_
    rw [fU_0]
    refine lv_iload hx hb dL_law_2664 (lv_at hl 0 rfl) ?_
    refine lv_if_eq (tgt := 2673) hx hb dL_law_2666 (by decide) (fun c0 => ?_) (fun c0 => ?_)
    · refine lv_lconst (v := hB v) hx hb dL_law_2673 (by rw [hB, if_pos c0]; decide) ?_
      refine W.lcmp hx hb dL_law_2674 ?_
      rw [lg_self]
      refine lv_if_eq (tgt := 2680) hx hb dL_law_2675 (by decide) (fun _ => ?_) (fun c9 => absurd rfl c9)
      refine lv_goto (tgt := 3247) hx hb dL_law_2680 (by decide) ?_
      refine W.widen (k := cells + 3) (n := slots + 18) (by omega) (by omega) ?_
      exact kk _ _ _ _ _ hI9 _ _ hP hD hS _ (lv_sub hl [2, 3, 4, 5, 6, 7] rfl)
    · refine lv_lconst (v := hB v) hx hb dL_law_2669 (by rw [hB, if_neg c0]; decide) ?_
      refine lv_goto (tgt := 2674) hx hb dL_law_2670 (by decide) ?_
      refine W.lcmp hx hb dL_law_2674 ?_
      rw [lg_self]
      refine lv_if_eq (tgt := 2680) hx hb dL_law_2675 (by decide) (fun _ => ?_) (fun c9 => absurd rfl c9)
      refine lv_goto (tgt := 3247) hx hb dL_law_2680 (by decide) ?_
      refine W.widen (k := cells + 3) (n := slots + 18) (by omega) (by omega) ?_
      exact kk _ _ _ _ _ hI9 _ _ hP hD hS _ (lv_sub hl [2, 3, 4, 5, 6, 7] rfl)
set_option maxRecDepth 100000 in
set_option maxHeartbeats 4000000 in
theorem v_accountByBalance (C : LC p l R s m args c D cA ad A b L xs) (hN : 2000 ≤ N) (hi : i + 6 ≤ L) (hI : IV n s0 s1 sm) (hn : n + 1 ≤ 512) (hcl : cells + 3 ≤ 603072) (hsl : slots + 18 ≤ 7198826) (hP : va_P D vwCl (LW cA ad hm hr h0 o od f g sm s0 s1) H) (hD : va_D A (LW cA ad hm hr h0 o od f g sm s0 s1)) (hS : va_S A s.heap H locs) (hl : lv_has ls 9 [(5, .int (iI (i : Int))), (4, .ref od), (3, .ref o), (2, .ref (hm 0)), (1, .ref (h0 0)), (0, .ref b)])
    (kk : LK p l e R s m args below meth c cells slots Q D cA ad A b hm hr h0 o od i n) : W p l e R s m args below meth c H locs cells slots Q (F0 m 2683 ls []) := by
  obtain ⟨⟨hx, hb, hml, hown, hts⟩, hl9, eR, hN9, hE, hV, hX, hK, hA, hXs, hbl, hbA, hL9⟩ := C
  have hst := st_accountByBalance (t := s0) (r := s1) (s := sm) hN hI hn (xs (i + 1))
  obtain ⟨k, v, v9, sm9, hc9, hm9, hth, hq, hv, hI9⟩ := hst
  refine lv_aload_n hx hb dL_law_2683 rfl (lv_at hl 4 rfl) ?_
  refine lv_aload_n hx hb dL_law_2684 rfl (lv_at hl 5 rfl) ?_
  refine lv_iload hx hb dL_law_2685 (lv_at hl 0 rfl) ?_
  refine lv_iconst (v := 1) hx hb dL_law_2687 (by decide) ?_
  refine lv_iadd hx hb dL_law_2688 ?_
  refine vSld hx hb hXs hbl hbA hS (k := i + 1) (sIx1 hi hL9) dL_law_2689 ?_
  refine lv_aload_n hx hb dL_law_2690 rfl (lv_at hl 2 rfl) ?_
  refine hCall (w2 := LW cA ad hm hr h0 o od (fU k f v.toInt64) g sm s0 s1) (hRunS (n := 3) (As := [.ref (h0 0), .int (xs (i + 1)), .ref o]) (rest := []) ⟨hx, hb, hml, hown, hts⟩ (h_accountByBalance l hl9 D cA ad hr h0 o od _ N ((xs (i + 1))) f g s0 s1 k v hc9 hq) qcw_L_accountByBalance qml_L_349 qst_L_accountByBalance qini_L (by decide +kernel) (by rw [eR]; rfl) hN9 hE hV hX hS hA hK hP hD (mid 8 288) (LW_hC _ _ _ _ _ _ _ _ _ _ _ _) (mid_nd _ _) rfl rfl hl.1 rfl (lv_room (Nat.le_of_ble_eq_true rfl)) dL_law_2691 ⟨by rw [eR]; show cells + 1 ≤ 603072; omega, by rw [eR]; show slots + 6 ≤ 7198826; omega⟩) hP hD hS hA (mid 8 288) (LW_hC _ _ _ _ _ _ _ _ _ _ _ _) (HW_fst _ _ _ _ _ _ _ _ _ _ _ _ _ _) (LW_hH _ _ _ _ _ _ _ _ _ _ _ _ _ _ _ _) (fun H locs hP hD hS => ?_)
  refine lv_istore (lv' := [(6, .int (iI (lawC [2] k : Int))), (5, .int (iI (i : Int))), (4, .ref od), (3, .ref o), (2, .ref (hm 0)), (1, .ref (h0 0)), (0, .ref b)]) hx hb dL_law_2694 hl (by decide) rfl (fun ls hl => ?_)
  refine lv_aload_n hx hb dL_law_2696 rfl (lv_at hl 4 rfl) ?_
  refine lv_aload_n hx hb dL_law_2697 rfl (lv_at hl 6 rfl) ?_
  refine lv_iload hx hb dL_law_2698 (lv_at hl 1 rfl) ?_
  refine lv_iconst (v := 1) hx hb dL_law_2700 (by decide) ?_
  refine lv_iadd hx hb dL_law_2701 ?_
  refine vSld hx hb hXs hbl hbA hS (k := i + 1) (sIx1 hi hL9) dL_law_2702 ?_
  refine xCallH (w2 := LW cA ad hm hr h0 o od (fU k f v.toInt64) g sm9 s0 s1) (xRunV (n := 1) (As := [.int (xs (i + 1))]) (rest := []) ⟨hx, hb, hml, hown, hts⟩ (kX13_accountByBalance l D cA hm _ N ((xs (i + 1))) sm (v9, sm9) hm9) qco_X13_accountByBalance qml_L_351 qin_X13_accountByBalance qse_X13_accountByBalance qini_X13 (by decide +kernel) (by rw [eR]; rfl) hK hP hD (mid 0 8) (LW_mC _ _ _ _ _ _ _ _ _ _ _ _) (mid_nd _ _) (q0 := 0) rfl rfl rfl rfl rfl hl.1 rfl (lv_room (Nat.le_of_ble_eq_true rfl)) dL_law_2703 ⟨by rw [eR]; show cells + 1 ≤ 603072; omega, by rw [eR]; show slots + 6 ≤ 7198826; omega⟩) hP hD hS hA (mid 0 8) (LW_mC _ _ _ _ _ _ _ _ _ _ _ _) rfl (LW_mH _ _ _ _ _ _ _ _ _ _ _ _ _) (fun H locs hP hD hS => ?_)
  refine lv_istore (lv' := [(7, .int v9), (6, .int (iI (lawC [2] k : Int))), (5, .int (iI (i : Int))), (4, .ref od), (3, .ref o), (2, .ref (hm 0)), (1, .ref (h0 0)), (0, .ref b)]) hx hb dL_law_2706 hl (by decide) rfl (fun ls hl => ?_)
  refine lv_aload_n hx hb dL_law_2708 rfl (lv_at hl 5 rfl) ?_
  refine xCallH (w2 := LW cA ad hm hr h0 o od (fU k f v.toInt64) g sm9 s0 s1) (xRunV (n := 0) (As := []) (rest := []) ⟨hx, hb, hml, hown, hts⟩ (kX13_thrown l D cA hm _ N sm9 _ rfl) qco_X13_thrown qml_L_184 qin_X13_thrown qse_X13_thrown qini_X13 (by decide +kernel) (by rw [eR]; rfl) hK hP hD (mid 0 8) (LW_mC _ _ _ _ _ _ _ _ _ _ _ _) (mid_nd _ _) (q0 := 0) rfl rfl rfl rfl rfl hl.1 rfl (lv_room (Nat.le_of_ble_eq_true rfl)) dL_law_2709 ⟨by rw [eR]; show cells + 1 ≤ 603072; omega, by rw [eR]; show slots + 6 ≤ 7198826; omega⟩) hP hD hS hA (mid 0 8) (LW_mC _ _ _ _ _ _ _ _ _ _ _ _) rfl (LW_mH _ _ _ _ _ _ _ _ _ _ _ _ _) (fun H locs hP hD hS => ?_)
  refine lv_iload hx hb dL_law_2712 (lv_at hl 1 rfl) ?_
  refine lv_icmp_eq (tgt := 2719) hx hb dL_law_2714 (by decide) (fun _ => ?_) (fun c9 => absurd hth c9)
  refine lv_iload hx hb dL_law_2719 (lv_at hl 1 rfl) ?_
  refine lv_if_ne (tgt := 2736) hx hb dL_law_2721 (by decide) (fun c9 => ?_) (fun c9 => ?_)
  · refine lv_goto (tgt := 3247) hx hb dL_law_2736 (by decide) ?_
    refine W.widen (k := cells + 3) (n := slots + 18) (by omega) (by omega) ?_
    exact kk _ _ _ _ _ hI9 _ _ hP hD hS _ (lv_sub hl [2, 3, 4, 5, 6, 7] rfl)
  · have hk : k = 0 := Classical.byContradiction fun hk => lawC_nz hk (by decide) c9
    subst hk
    have hvv := hv rfl
    subst hvv
    refine lv_aload_n hx hb dL_law_2724 rfl (lv_at hl 4 rfl) ?_
    refine lv_iconst (v := 0) hx hb dL_law_2725 (by decide) ?_
    refine va_lald hx hb hK hP 8 2 rfl rfl (x_lit (n := 1) (k := 0) (by decide)).1 dL_law_2726 ?_
    rw [fU_0]
    refine lv_iload hx hb dL_law_2727 (lv_at hl 0 rfl) ?_
    refine lv_i2l (v := v.toInt64) hx hb dL_law_2729 rfl ?_
    refine W.lcmp hx hb dL_law_2730 ?_
    rw [lg_self]
    refine lv_if_eq (tgt := 2736) hx hb dL_law_2731 (by decide) (fun _ => ?_) (fun c9 => absurd rfl c9)
    refine lv_goto (tgt := 3247) hx hb dL_law_2736 (by decide) ?_
    refine W.widen (k := cells + 3) (n := slots + 18) (by omega) (by omega) ?_
    exact kk _ _ _ _ _ hI9 _ _ hP hD hS _ (lv_sub hl [2, 3, 4, 5, 6, 7] rfl)
set_option maxRecDepth 100000 in
set_option maxHeartbeats 4000000 in
theorem v_curtainCount (C : LC p l R s m args c D cA ad A b L xs) (hN : 2000 ≤ N) (hi : i + 6 ≤ L) (hI : IV n s0 s1 sm) (hn : n + 1 ≤ 512) (hcl : cells + 3 ≤ 603072) (hsl : slots + 18 ≤ 7198826) (hP : va_P D vwCl (LW cA ad hm hr h0 o od f g sm s0 s1) H) (hD : va_D A (LW cA ad hm hr h0 o od f g sm s0 s1)) (hS : va_S A s.heap H locs) (hl : lv_has ls 9 [(5, .int (iI (i : Int))), (4, .ref od), (3, .ref o), (2, .ref (hm 0)), (1, .ref (h0 0)), (0, .ref b)])
    (kk : LK p l e R s m args below meth c cells slots Q D cA ad A b hm hr h0 o od i n) : W p l e R s m args below meth c H locs cells slots Q (F0 m 2739 ls []) := by
  obtain ⟨⟨hx, hb, hml, hown, hts⟩, hl9, eR, hN9, hE, hV, hX, hK, hA, hXs, hbl, hbA, hL9⟩ := C
  have hst := st_curtainCount (t := s0) (r := s1) (s := sm) hN hI hn
  obtain ⟨v, sm9, hc9, hm9, hI9⟩ := hst
  refine lv_aload_n hx hb dL_law_2739 rfl (lv_at hl 4 rfl) ?_
  refine xCallH (w2 := LW cA ad hm hr h0 o od f g sm s0 s1) (zRunV (n := 0) (As := []) (rest := []) ⟨hx, hb, hml, hown, hts⟩ (kX12_curtainCount l D cA ad hr h0 _ N s0 v hc9) qco_X12_curtainCount qml_L_352 qin_X12_curtainCount qse_X12_curtainCount qini_X12 (by decide +kernel) (by rw [eR]; rfl) hN9 hE hS hA hK hP hD (mid 10 61) (LW_tC _ _ _ _ _ _ _ _ _ _ _ _) (mid_nd _ _) (q0 := 0) rfl rfl rfl rfl rfl hl.1 rfl (lv_room (Nat.le_of_ble_eq_true rfl)) dL_law_2740 ⟨by rw [eR]; show cells + 0 ≤ 603072; omega, by rw [eR]; show slots + 0 ≤ 7198826; omega⟩) hP hD hS hA (mid 10 61) (LW_tC _ _ _ _ _ _ _ _ _ _ _ _) rfl (LW_tH _ _ _ _ _ _ _ _ _ _ _ _ _) (fun H locs hP hD hS => ?_)
  refine lv_aload_n hx hb dL_law_2743 rfl (lv_at hl 3 rfl) ?_
  refine xCallH (w2 := LW cA ad hm hr h0 o od f g sm9 s0 s1) (xRunV (n := 0) (As := []) (rest := [.int v]) ⟨hx, hb, hml, hown, hts⟩ (kX13_curtainCount l D cA hm _ N sm (v, sm9) hm9) qco_X13_curtainCount qml_L_355 qin_X13_curtainCount qse_X13_curtainCount qini_X13 (by decide +kernel) (by rw [eR]; rfl) hK hP hD (mid 0 8) (LW_mC _ _ _ _ _ _ _ _ _ _ _ _) (mid_nd _ _) (q0 := 0) rfl rfl rfl rfl rfl hl.1 rfl (lv_room (Nat.le_of_ble_eq_true rfl)) dL_law_2744 ⟨by rw [eR]; show cells + 0 ≤ 603072; omega, by rw [eR]; show slots + 0 ≤ 7198826; omega⟩) hP hD hS hA (mid 0 8) (LW_mC _ _ _ _ _ _ _ _ _ _ _ _) rfl (LW_mH _ _ _ _ _ _ _ _ _ _ _ _ _) (fun H locs hP hD hS => ?_)
  refine lv_icmp_eq (tgt := 3247) hx hb dL_law_2747 (by decide) (fun _ => ?_) (fun c9 => absurd rfl c9)
  refine W.widen (k := cells + 3) (n := slots + 18) (by omega) (by omega) ?_
  exact kk _ _ _ _ _ hI9 _ _ hP hD hS _ (lv_sub hl [0, 1, 2, 3, 4, 5] rfl)
set_option maxRecDepth 100000 in
set_option maxHeartbeats 4000000 in
theorem v_isConsistent (C : LC p l R s m args c D cA ad A b L xs) (hN : 2000 ≤ N) (hi : i + 6 ≤ L) (hI : IV n s0 s1 sm) (hn : n + 1 ≤ 512) (hcl : cells + 3 ≤ 603072) (hsl : slots + 18 ≤ 7198826) (hP : va_P D vwCl (LW cA ad hm hr h0 o od f g sm s0 s1) H) (hD : va_D A (LW cA ad hm hr h0 o od f g sm s0 s1)) (hS : va_S A s.heap H locs) (hl : lv_has ls 9 [(5, .int (iI (i : Int))), (4, .ref od), (3, .ref o), (2, .ref (hm 0)), (1, .ref (h0 0)), (0, .ref b)])
    (kk : LK p l e R s m args below meth c cells slots Q D cA ad A b hm hr h0 o od i n) : W p l e R s m args below meth c H locs cells slots Q (F0 m 2818 ls []) := by
  obtain ⟨⟨hx, hb, hml, hown, hts⟩, hl9, eR, hN9, hE, hV, hX, hK, hA, hXs, hbl, hbA, hL9⟩ := C
  have hst := st_isConsistent (t := s0) (r := s1) (s := sm) hN hI hn
  obtain ⟨v, t9, sm9, hc9, hm9, hI9⟩ := hst
  refine lv_aload_n hx hb dL_law_2818 rfl (lv_at hl 4 rfl) ?_
  refine xCallH (w2 := LW cA ad hm hr h0 o od f g sm t9 s1) (zRunV (n := 0) (As := []) (rest := []) ⟨hx, hb, hml, hown, hts⟩ (kX12_isConsistent l D cA ad hr h0 _ N s0 (v, t9) hc9) qco_X12_isConsistent qml_L_359 qin_X12_isConsistent qse_X12_isConsistent qini_X12 (by decide +kernel) (by rw [eR]; rfl) hN9 hE hS hA hK hP hD (mid 10 61) (LW_tC _ _ _ _ _ _ _ _ _ _ _ _) (mid_nd _ _) (q0 := 0) rfl rfl rfl rfl rfl hl.1 rfl (lv_room (Nat.le_of_ble_eq_true rfl)) dL_law_2819 ⟨by rw [eR]; show cells + 0 ≤ 603072; omega, by rw [eR]; show slots + 0 ≤ 7198826; omega⟩) hP hD hS hA (mid 10 61) (LW_tC _ _ _ _ _ _ _ _ _ _ _ _) rfl (LW_tH _ _ _ _ _ _ _ _ _ _ _ _ _) (fun H locs hP hD hS => ?_)
  refine lv_aload_n hx hb dL_law_2822 rfl (lv_at hl 3 rfl) ?_
  refine xCallH (w2 := LW cA ad hm hr h0 o od f g sm9 t9 s1) (xRunV (n := 0) (As := []) (rest := [.int v]) ⟨hx, hb, hml, hown, hts⟩ (kX13_isConsistent l D cA hm _ N sm (v, sm9) hm9) qco_X13_isConsistent qml_L_363 qin_X13_isConsistent qse_X13_isConsistent qini_X13 (by decide +kernel) (by rw [eR]; rfl) hK hP hD (mid 0 8) (LW_mC _ _ _ _ _ _ _ _ _ _ _ _) (mid_nd _ _) (q0 := 0) rfl rfl rfl rfl rfl hl.1 rfl (lv_room (Nat.le_of_ble_eq_true rfl)) dL_law_2823 ⟨by rw [eR]; show cells + 0 ≤ 603072; omega, by rw [eR]; show slots + 0 ≤ 7198826; omega⟩) hP hD hS hA (mid 0 8) (LW_mC _ _ _ _ _ _ _ _ _ _ _ _) rfl (LW_mH _ _ _ _ _ _ _ _ _ _ _ _ _) (fun H locs hP hD hS => ?_)
  refine lv_icmp_eq (tgt := 3247) hx hb dL_law_2826 (by decide) (fun _ => ?_) (fun c9 => absurd rfl c9)
  refine W.widen (k := cells + 3) (n := slots + 18) (by omega) (by omega) ?_
  exact kk _ _ _ _ _ hI9 _ _ hP hD hS _ (lv_sub hl [0, 1, 2, 3, 4, 5] rfl)
set_option maxRecDepth 100000 in
set_option maxHeartbeats 4000000 in
theorem v_feed (C : LC p l R s m args c D cA ad A b L xs) (hN : 2000 ≤ N) (hi : i + 6 ≤ L) (hI : IV n s0 s1 sm) (hn : n + 1 ≤ 512) (hcl : cells + 3 ≤ 603072) (hsl : slots + 18 ≤ 7198826) (hP : va_P D vwCl (LW cA ad hm hr h0 o od f g sm s0 s1) H) (hD : va_D A (LW cA ad hm hr h0 o od f g sm s0 s1)) (hS : va_S A s.heap H locs) (hl : lv_has ls 9 [(5, .int (iI (i : Int))), (4, .ref od), (3, .ref o), (2, .ref (hm 0)), (1, .ref (h0 0)), (0, .ref b)])
    (kk : LK p l e R s m args below meth c cells slots Q D cA ad A b hm hr h0 o od i n) : W p l e R s m args below meth c H locs cells slots Q (F0 m 2831 ls []) := by
  obtain ⟨⟨hx, hb, hml, hown, hts⟩, hl9, eR, hN9, hE, hV, hX, hK, hA, hXs, hbl, hbA, hL9⟩ := C
  have hst := st_feed (t := s0) (r := s1) (s := sm) hN hI hn (xs (i + 1))
  obtain ⟨k, v, v9, t9, sm9, hc9, hm9, hth, hq, hv, hI9⟩ := hst
  refine lv_aload_n hx hb dL_law_2831 rfl (lv_at hl 4 rfl) ?_
  refine lv_aload_n hx hb dL_law_2832 rfl (lv_at hl 5 rfl) ?_
  refine lv_iload hx hb dL_law_2833 (lv_at hl 0 rfl) ?_
  refine lv_iconst (v := 1) hx hb dL_law_2835 (by decide) ?_
  refine lv_iadd hx hb dL_law_2836 ?_
  refine vSld hx hb hXs hbl hbA hS (k := i + 1) (sIx1 hi hL9) dL_law_2837 ?_
  refine lv_i2c hx hb dL_law_2838 rfl ?_
  refine lv_aload_n hx hb dL_law_2839 rfl (lv_at hl 2 rfl) ?_
  refine hCall (w2 := LW cA ad hm hr h0 o od (fU k f v.toInt64) g sm t9 s1) (hRunS (n := 3) (As := [.ref (h0 0), .int (((Int32.toUInt32 (xs (i + 1))) % 65536).toInt32), .ref o]) (rest := []) ⟨hx, hb, hml, hown, hts⟩ (h_feed l hl9 D cA ad hr h0 o od _ N ((((Int32.toUInt32 (xs (i + 1))) % 65536).toInt32)) f g s0 s1 k v t9 hc9 hq) qcw_L_feed qml_L_364 qst_L_feed qini_L (by decide +kernel) (by rw [eR]; rfl) hN9 hE hV hX hS hA hK hP hD (mid 8 288) (LW_hC _ _ _ _ _ _ _ _ _ _ _ _) (mid_nd _ _) rfl rfl hl.1 rfl (lv_room (Nat.le_of_ble_eq_true rfl)) dL_law_2840 ⟨by rw [eR]; show cells + 1 ≤ 603072; omega, by rw [eR]; show slots + 6 ≤ 7198826; omega⟩) hP hD hS hA (mid 8 288) (LW_hC _ _ _ _ _ _ _ _ _ _ _ _) (HW_fst _ _ _ _ _ _ _ _ _ _ _ _ _ _) (LW_hH _ _ _ _ _ _ _ _ _ _ _ _ _ _ _ _) (fun H locs hP hD hS => ?_)
  refine lv_istore (lv' := [(6, .int (iI (lawC [4] k : Int))), (5, .int (iI (i : Int))), (4, .ref od), (3, .ref o), (2, .ref (hm 0)), (1, .ref (h0 0)), (0, .ref b)]) hx hb dL_law_2843 hl (by decide) rfl (fun ls hl => ?_)
  refine lv_aload_n hx hb dL_law_2845 rfl (lv_at hl 4 rfl) ?_
  refine lv_aload_n hx hb dL_law_2846 rfl (lv_at hl 6 rfl) ?_
  refine lv_iload hx hb dL_law_2847 (lv_at hl 1 rfl) ?_
  refine lv_iconst (v := 1) hx hb dL_law_2849 (by decide) ?_
  refine lv_iadd hx hb dL_law_2850 ?_
  refine vSld hx hb hXs hbl hbA hS (k := i + 1) (sIx1 hi hL9) dL_law_2851 ?_
  refine lv_i2c hx hb dL_law_2852 rfl ?_
  refine xCallH (w2 := LW cA ad hm hr h0 o od (fU k f v.toInt64) g sm9 t9 s1) (xRunV (n := 1) (As := [.int (((Int32.toUInt32 (xs (i + 1))) % 65536).toInt32)]) (rest := []) ⟨hx, hb, hml, hown, hts⟩ (kX13_feed l D cA hm _ N ((((Int32.toUInt32 (xs (i + 1))) % 65536).toInt32)) sm (v9, sm9) hm9) qco_X13_feed qml_L_366 qin_X13_feed qse_X13_feed qini_X13 (by decide +kernel) (by rw [eR]; rfl) hK hP hD (mid 0 8) (LW_mC _ _ _ _ _ _ _ _ _ _ _ _) (mid_nd _ _) (q0 := 0) rfl rfl rfl rfl rfl hl.1 rfl (lv_room (Nat.le_of_ble_eq_true rfl)) dL_law_2853 ⟨by rw [eR]; show cells + 1 ≤ 603072; omega, by rw [eR]; show slots + 6 ≤ 7198826; omega⟩) hP hD hS hA (mid 0 8) (LW_mC _ _ _ _ _ _ _ _ _ _ _ _) rfl (LW_mH _ _ _ _ _ _ _ _ _ _ _ _ _) (fun H locs hP hD hS => ?_)
  refine lv_istore (lv' := [(7, .int v9), (6, .int (iI (lawC [4] k : Int))), (5, .int (iI (i : Int))), (4, .ref od), (3, .ref o), (2, .ref (hm 0)), (1, .ref (h0 0)), (0, .ref b)]) hx hb dL_law_2856 hl (by decide) rfl (fun ls hl => ?_)
  refine lv_aload_n hx hb dL_law_2858 rfl (lv_at hl 5 rfl) ?_
  refine xCallH (w2 := LW cA ad hm hr h0 o od (fU k f v.toInt64) g sm9 t9 s1) (xRunV (n := 0) (As := []) (rest := []) ⟨hx, hb, hml, hown, hts⟩ (kX13_thrown l D cA hm _ N sm9 _ rfl) qco_X13_thrown qml_L_184 qin_X13_thrown qse_X13_thrown qini_X13 (by decide +kernel) (by rw [eR]; rfl) hK hP hD (mid 0 8) (LW_mC _ _ _ _ _ _ _ _ _ _ _ _) (mid_nd _ _) (q0 := 0) rfl rfl rfl rfl rfl hl.1 rfl (lv_room (Nat.le_of_ble_eq_true rfl)) dL_law_2859 ⟨by rw [eR]; show cells + 1 ≤ 603072; omega, by rw [eR]; show slots + 6 ≤ 7198826; omega⟩) hP hD hS hA (mid 0 8) (LW_mC _ _ _ _ _ _ _ _ _ _ _ _) rfl (LW_mH _ _ _ _ _ _ _ _ _ _ _ _ _) (fun H locs hP hD hS => ?_)
  refine lv_iload hx hb dL_law_2862 (lv_at hl 1 rfl) ?_
  refine lv_icmp_eq (tgt := 2869) hx hb dL_law_2864 (by decide) (fun _ => ?_) (fun c9 => absurd hth c9)
  refine lv_iload hx hb dL_law_2869 (lv_at hl 1 rfl) ?_
  refine lv_if_ne (tgt := 2886) hx hb dL_law_2871 (by decide) (fun c9 => ?_) (fun c9 => ?_)
  · refine lv_goto (tgt := 3247) hx hb dL_law_2886 (by decide) ?_
    refine W.widen (k := cells + 3) (n := slots + 18) (by omega) (by omega) ?_
    exact kk _ _ _ _ _ hI9 _ _ hP hD hS _ (lv_sub hl [2, 3, 4, 5, 6, 7] rfl)
  · have hk : k = 0 := Classical.byContradiction fun hk => lawC_nz hk (by decide) c9
    subst hk
    have hvv := hv rfl
    subst hvv
    refine lv_aload_n hx hb dL_law_2874 rfl (lv_at hl 4 rfl) ?_
    refine lv_iconst (v := 0) hx hb dL_law_2875 (by decide) ?_
    refine va_lald hx hb hK hP 8 2 rfl rfl (x_lit (n := 1) (k := 0) (by decide)).1 dL_law_2876 ?_
    rw [fU_0]
    refine lv_iload hx hb dL_law_2877 (lv_at hl 0 rfl) ?_
    refine lv_i2l (v := v.toInt64) hx hb dL_law_2879 rfl ?_
    refine W.lcmp hx hb dL_law_2880 ?_
    rw [lg_self]
    refine lv_if_eq (tgt := 2886) hx hb dL_law_2881 (by decide) (fun _ => ?_) (fun c9 => absurd rfl c9)
    refine lv_goto (tgt := 3247) hx hb dL_law_2886 (by decide) ?_
    refine W.widen (k := cells + 3) (n := slots + 18) (by omega) (by omega) ?_
    exact kk _ _ _ _ _ hI9 _ _ hP hD hS _ (lv_sub hl [2, 3, 4, 5, 6, 7] rfl)
set_option maxRecDepth 100000 in
set_option maxHeartbeats 4000000 in
theorem v_runCommands (C : LC p l R s m args c D cA ad A b L xs) (hN : 2000 ≤ N) (hi : i + 6 ≤ L) (hI : IV n s0 s1 sm) (hn : n + 1 ≤ 512) (hcl : cells + 3 ≤ 603072) (hsl : slots + 18 ≤ 7198826) (hP : va_P D vwCl (LW cA ad hm hr h0 o od f g sm s0 s1) H) (hD : va_D A (LW cA ad hm hr h0 o od f g sm s0 s1)) (hS : va_S A s.heap H locs) (hl : lv_has ls 9 [(5, .int (iI (i : Int))), (4, .ref od), (3, .ref o), (2, .ref (hm 0)), (1, .ref (h0 0)), (0, .ref b)])
    (kk : LK p l e R s m args below meth c cells slots Q D cA ad A b hm hr h0 o od i n) : W p l e R s m args below meth c H locs cells slots Q (F0 m 2889 ls []) := by
  obtain ⟨⟨hx, hb, hml, hown, hts⟩, hl9, eR, hN9, hE, hV, hX, hK, hA, hXs, hbl, hbA, hL9⟩ := C
  have hst := st_runCommands (t := s0) (r := s1) (s := sm) hN hI hn
  obtain ⟨k, v, v9, t9, r9, sm9, hc9, hm9, hth, hq, hv, hI9⟩ := hst
  refine lv_aload_n hx hb dL_law_2889 rfl (lv_at hl 4 rfl) ?_
  refine lv_aload_n hx hb dL_law_2890 rfl (lv_at hl 2 rfl) ?_
  refine hCall (w2 := LW cA ad hm hr h0 o od (fU k f v.toInt64) g sm t9 r9) (hRunS (n := 2) (As := [.ref (h0 0), .ref o]) (rest := []) ⟨hx, hb, hml, hown, hts⟩ (h_runCommands l hl9 D cA ad hr h0 o od _ N  f g s0 s1 k v t9 r9 hc9 hq) qcw_L_runCommands qml_L_367 qst_L_runCommands qini_L (by decide +kernel) (by rw [eR]; rfl) hN9 hE hV hX hS hA hK hP hD (mid 8 288) (LW_hC _ _ _ _ _ _ _ _ _ _ _ _) (mid_nd _ _) rfl rfl hl.1 rfl (lv_room (Nat.le_of_ble_eq_true rfl)) dL_law_2891 ⟨by rw [eR]; show cells + 1 ≤ 603072; omega, by rw [eR]; show slots + 6 ≤ 7198826; omega⟩) hP hD hS hA (mid 8 288) (LW_hC _ _ _ _ _ _ _ _ _ _ _ _) (HW_fst _ _ _ _ _ _ _ _ _ _ _ _ _ _) (LW_hH _ _ _ _ _ _ _ _ _ _ _ _ _ _ _ _) (fun H locs hP hD hS => ?_)
  refine lv_istore (lv' := [(6, .int (iI (lawC [3, 5] k : Int))), (5, .int (iI (i : Int))), (4, .ref od), (3, .ref o), (2, .ref (hm 0)), (1, .ref (h0 0)), (0, .ref b)]) hx hb dL_law_2894 hl (by decide) rfl (fun ls hl => ?_)
  refine lv_aload_n hx hb dL_law_2896 rfl (lv_at hl 4 rfl) ?_
  refine xCallH (w2 := LW cA ad hm hr h0 o od (fU k f v.toInt64) g sm9 t9 r9) (xRunV (n := 0) (As := []) (rest := []) ⟨hx, hb, hml, hown, hts⟩ (kX13_runCommands l D cA hm _ N sm (v9, sm9) hm9) qco_X13_runCommands qml_L_370 qin_X13_runCommands qse_X13_runCommands qini_X13 (by decide +kernel) (by rw [eR]; rfl) hK hP hD (mid 0 8) (LW_mC _ _ _ _ _ _ _ _ _ _ _ _) (mid_nd _ _) (q0 := 0) rfl rfl rfl rfl rfl hl.1 rfl (lv_room (Nat.le_of_ble_eq_true rfl)) dL_law_2897 ⟨by rw [eR]; show cells + 1 ≤ 603072; omega, by rw [eR]; show slots + 6 ≤ 7198826; omega⟩) hP hD hS hA (mid 0 8) (LW_mC _ _ _ _ _ _ _ _ _ _ _ _) rfl (LW_mH _ _ _ _ _ _ _ _ _ _ _ _ _) (fun H locs hP hD hS => ?_)
  refine lv_istore (lv' := [(7, .int v9), (6, .int (iI (lawC [3, 5] k : Int))), (5, .int (iI (i : Int))), (4, .ref od), (3, .ref o), (2, .ref (hm 0)), (1, .ref (h0 0)), (0, .ref b)]) hx hb dL_law_2900 hl (by decide) rfl (fun ls hl => ?_)
  refine lv_aload_n hx hb dL_law_2902 rfl (lv_at hl 5 rfl) ?_
  refine xCallH (w2 := LW cA ad hm hr h0 o od (fU k f v.toInt64) g sm9 t9 r9) (xRunV (n := 0) (As := []) (rest := []) ⟨hx, hb, hml, hown, hts⟩ (kX13_thrown l D cA hm _ N sm9 _ rfl) qco_X13_thrown qml_L_184 qin_X13_thrown qse_X13_thrown qini_X13 (by decide +kernel) (by rw [eR]; rfl) hK hP hD (mid 0 8) (LW_mC _ _ _ _ _ _ _ _ _ _ _ _) (mid_nd _ _) (q0 := 0) rfl rfl rfl rfl rfl hl.1 rfl (lv_room (Nat.le_of_ble_eq_true rfl)) dL_law_2903 ⟨by rw [eR]; show cells + 1 ≤ 603072; omega, by rw [eR]; show slots + 6 ≤ 7198826; omega⟩) hP hD hS hA (mid 0 8) (LW_mC _ _ _ _ _ _ _ _ _ _ _ _) rfl (LW_mH _ _ _ _ _ _ _ _ _ _ _ _ _) (fun H locs hP hD hS => ?_)
  refine lv_iload hx hb dL_law_2906 (lv_at hl 1 rfl) ?_
  refine lv_icmp_eq (tgt := 2913) hx hb dL_law_2908 (by decide) (fun _ => ?_) (fun c9 => absurd hth c9)
  refine lv_iload hx hb dL_law_2913 (lv_at hl 1 rfl) ?_
  refine lv_if_ne (tgt := 2930) hx hb dL_law_2915 (by decide) (fun c9 => ?_) (fun c9 => ?_)
  · refine lv_goto (tgt := 3247) hx hb dL_law_2930 (by decide) ?_
    refine W.widen (k := cells + 3) (n := slots + 18) (by omega) (by omega) ?_
    exact kk _ _ _ _ _ hI9 _ _ hP hD hS _ (lv_sub hl [2, 3, 4, 5, 6, 7] rfl)
  · have hk : k = 0 := Classical.byContradiction fun hk => lawC_nz hk (by decide) c9
    subst hk
    have hvv := hv rfl
    subst hvv
    refine lv_aload_n hx hb dL_law_2918 rfl (lv_at hl 4 rfl) ?_
    refine lv_iconst (v := 0) hx hb dL_law_2919 (by decide) ?_
    refine va_lald hx hb hK hP 8 2 rfl rfl (x_lit (n := 1) (k := 0) (by decide)).1 dL_law_2920 ?_
    rw [fU_0]
    refine lv_iload hx hb dL_law_2921 (lv_at hl 0 rfl) ?_
    refine lv_i2l (v := v.toInt64) hx hb dL_law_2923 rfl ?_
    refine W.lcmp hx hb dL_law_2924 ?_
    rw [lg_self]
    refine lv_if_eq (tgt := 2930) hx hb dL_law_2925 (by decide) (fun _ => ?_) (fun c9 => absurd rfl c9)
    refine lv_goto (tgt := 3247) hx hb dL_law_2930 (by decide) ?_
    refine W.widen (k := cells + 3) (n := slots + 18) (by omega) (by omega) ?_
    exact kk _ _ _ _ _ hI9 _ _ hP hD hS _ (lv_sub hl [2, 3, 4, 5, 6, 7] rfl)
set_option maxRecDepth 100000 in
set_option maxHeartbeats 4000000 in
theorem v_errorPosition (C : LC p l R s m args c D cA ad A b L xs) (hN : 2000 ≤ N) (hi : i + 6 ≤ L) (hI : IV n s0 s1 sm) (hn : n + 1 ≤ 512) (hcl : cells + 3 ≤ 603072) (hsl : slots + 18 ≤ 7198826) (hP : va_P D vwCl (LW cA ad hm hr h0 o od f g sm s0 s1) H) (hD : va_D A (LW cA ad hm hr h0 o od f g sm s0 s1)) (hS : va_S A s.heap H locs) (hl : lv_has ls 9 [(5, .int (iI (i : Int))), (4, .ref od), (3, .ref o), (2, .ref (hm 0)), (1, .ref (h0 0)), (0, .ref b)])
    (kk : LK p l e R s m args below meth c cells slots Q D cA ad A b hm hr h0 o od i n) : W p l e R s m args below meth c H locs cells slots Q (F0 m 2933 ls []) := by
  obtain ⟨⟨hx, hb, hml, hown, hts⟩, hl9, eR, hN9, hE, hV, hX, hK, hA, hXs, hbl, hbA, hL9⟩ := C
  have hst := st_errorPosition (t := s0) (r := s1) (s := sm) hN hI hn
  obtain ⟨k, v, v9, sm9, hc9, hm9, hth, hq, hv, hI9⟩ := hst
  refine lv_aload_n hx hb dL_law_2933 rfl (lv_at hl 4 rfl) ?_
  refine lv_aload_n hx hb dL_law_2934 rfl (lv_at hl 2 rfl) ?_
  refine hCall (w2 := LW cA ad hm hr h0 o od (fU k f v.toInt64) g sm s0 s1) (hRunS (n := 2) (As := [.ref (h0 0), .ref o]) (rest := []) ⟨hx, hb, hml, hown, hts⟩ (h_errorPosition l hl9 D cA ad hr h0 o od _ N  f g s0 s1 k v hc9 hq) qcw_L_errorPosition qml_L_371 qst_L_errorPosition qini_L (by decide +kernel) (by rw [eR]; rfl) hN9 hE hV hX hS hA hK hP hD (mid 8 288) (LW_hC _ _ _ _ _ _ _ _ _ _ _ _) (mid_nd _ _) rfl rfl hl.1 rfl (lv_room (Nat.le_of_ble_eq_true rfl)) dL_law_2935 ⟨by rw [eR]; show cells + 1 ≤ 603072; omega, by rw [eR]; show slots + 6 ≤ 7198826; omega⟩) hP hD hS hA (mid 8 288) (LW_hC _ _ _ _ _ _ _ _ _ _ _ _) (HW_fst _ _ _ _ _ _ _ _ _ _ _ _ _ _) (LW_hH _ _ _ _ _ _ _ _ _ _ _ _ _ _ _ _) (fun H locs hP hD hS => ?_)
  refine lv_istore (lv' := [(6, .int (iI (lawC [2] k : Int))), (5, .int (iI (i : Int))), (4, .ref od), (3, .ref o), (2, .ref (hm 0)), (1, .ref (h0 0)), (0, .ref b)]) hx hb dL_law_2938 hl (by decide) rfl (fun ls hl => ?_)
  refine lv_aload_n hx hb dL_law_2940 rfl (lv_at hl 4 rfl) ?_
  refine xCallH (w2 := LW cA ad hm hr h0 o od (fU k f v.toInt64) g sm9 s0 s1) (xRunV (n := 0) (As := []) (rest := []) ⟨hx, hb, hml, hown, hts⟩ (kX13_errorPosition l D cA hm _ N sm (v9, sm9) hm9) qco_X13_errorPosition qml_L_373 qin_X13_errorPosition qse_X13_errorPosition qini_X13 (by decide +kernel) (by rw [eR]; rfl) hK hP hD (mid 0 8) (LW_mC _ _ _ _ _ _ _ _ _ _ _ _) (mid_nd _ _) (q0 := 0) rfl rfl rfl rfl rfl hl.1 rfl (lv_room (Nat.le_of_ble_eq_true rfl)) dL_law_2941 ⟨by rw [eR]; show cells + 1 ≤ 603072; omega, by rw [eR]; show slots + 6 ≤ 7198826; omega⟩) hP hD hS hA (mid 0 8) (LW_mC _ _ _ _ _ _ _ _ _ _ _ _) rfl (LW_mH _ _ _ _ _ _ _ _ _ _ _ _ _) (fun H locs hP hD hS => ?_)
  refine lv_istore (lv' := [(7, .int v9), (6, .int (iI (lawC [2] k : Int))), (5, .int (iI (i : Int))), (4, .ref od), (3, .ref o), (2, .ref (hm 0)), (1, .ref (h0 0)), (0, .ref b)]) hx hb dL_law_2944 hl (by decide) rfl (fun ls hl => ?_)
  refine lv_aload_n hx hb dL_law_2946 rfl (lv_at hl 5 rfl) ?_
  refine xCallH (w2 := LW cA ad hm hr h0 o od (fU k f v.toInt64) g sm9 s0 s1) (xRunV (n := 0) (As := []) (rest := []) ⟨hx, hb, hml, hown, hts⟩ (kX13_thrown l D cA hm _ N sm9 _ rfl) qco_X13_thrown qml_L_184 qin_X13_thrown qse_X13_thrown qini_X13 (by decide +kernel) (by rw [eR]; rfl) hK hP hD (mid 0 8) (LW_mC _ _ _ _ _ _ _ _ _ _ _ _) (mid_nd _ _) (q0 := 0) rfl rfl rfl rfl rfl hl.1 rfl (lv_room (Nat.le_of_ble_eq_true rfl)) dL_law_2947 ⟨by rw [eR]; show cells + 1 ≤ 603072; omega, by rw [eR]; show slots + 6 ≤ 7198826; omega⟩) hP hD hS hA (mid 0 8) (LW_mC _ _ _ _ _ _ _ _ _ _ _ _) rfl (LW_mH _ _ _ _ _ _ _ _ _ _ _ _ _) (fun H locs hP hD hS => ?_)
  refine lv_iload hx hb dL_law_2950 (lv_at hl 1 rfl) ?_
  refine lv_icmp_eq (tgt := 2957) hx hb dL_law_2952 (by decide) (fun _ => ?_) (fun c9 => absurd hth c9)
  refine lv_iload hx hb dL_law_2957 (lv_at hl 1 rfl) ?_
  refine lv_if_ne (tgt := 2974) hx hb dL_law_2959 (by decide) (fun c9 => ?_) (fun c9 => ?_)
  · refine lv_goto (tgt := 3247) hx hb dL_law_2974 (by decide) ?_
    refine W.widen (k := cells + 3) (n := slots + 18) (by omega) (by omega) ?_
    exact kk _ _ _ _ _ hI9 _ _ hP hD hS _ (lv_sub hl [2, 3, 4, 5, 6, 7] rfl)
  · have hk : k = 0 := Classical.byContradiction fun hk => lawC_nz hk (by decide) c9
    subst hk
    have hvv := hv rfl
    subst hvv
    refine lv_aload_n hx hb dL_law_2962 rfl (lv_at hl 4 rfl) ?_
    refine lv_iconst (v := 0) hx hb dL_law_2963 (by decide) ?_
    refine va_lald hx hb hK hP 8 2 rfl rfl (x_lit (n := 1) (k := 0) (by decide)).1 dL_law_2964 ?_
    rw [fU_0]
    refine lv_iload hx hb dL_law_2965 (lv_at hl 0 rfl) ?_
    refine lv_i2l (v := v.toInt64) hx hb dL_law_2967 rfl ?_
    refine W.lcmp hx hb dL_law_2968 ?_
    rw [lg_self]
    refine lv_if_eq (tgt := 2974) hx hb dL_law_2969 (by decide) (fun _ => ?_) (fun c9 => absurd rfl c9)
    refine lv_goto (tgt := 3247) hx hb dL_law_2974 (by decide) ?_
    refine W.widen (k := cells + 3) (n := slots + 18) (by omega) (by omega) ?_
    exact kk _ _ _ _ _ hI9 _ _ hP hD hS _ (lv_sub hl [2, 3, 4, 5, 6, 7] rfl)
set_option maxRecDepth 100000 in
set_option maxHeartbeats 4000000 in
theorem v_failedCommand (C : LC p l R s m args c D cA ad A b L xs) (hN : 2000 ≤ N) (hi : i + 6 ≤ L) (hI : IV n s0 s1 sm) (hn : n + 1 ≤ 512) (hcl : cells + 3 ≤ 603072) (hsl : slots + 18 ≤ 7198826) (hP : va_P D vwCl (LW cA ad hm hr h0 o od f g sm s0 s1) H) (hD : va_D A (LW cA ad hm hr h0 o od f g sm s0 s1)) (hS : va_S A s.heap H locs) (hl : lv_has ls 9 [(5, .int (iI (i : Int))), (4, .ref od), (3, .ref o), (2, .ref (hm 0)), (1, .ref (h0 0)), (0, .ref b)])
    (kk : LK p l e R s m args below meth c cells slots Q D cA ad A b hm hr h0 o od i n) : W p l e R s m args below meth c H locs cells slots Q (F0 m 2977 ls []) := by
  obtain ⟨⟨hx, hb, hml, hown, hts⟩, hl9, eR, hN9, hE, hV, hX, hK, hA, hXs, hbl, hbA, hL9⟩ := C
  have hst := st_failedCommand (t := s0) (r := s1) (s := sm) hN hI hn
  obtain ⟨k, v, v9, sm9, hc9, hm9, hth, hq, hv, hI9⟩ := hst
  refine lv_aload_n hx hb dL_law_2977 rfl (lv_at hl 4 rfl) ?_
  refine lv_aload_n hx hb dL_law_2978 rfl (lv_at hl 2 rfl) ?_
  refine hCall (w2 := LW cA ad hm hr h0 o od (fU k f v.toInt64) g sm s0 s1) (hRunS (n := 2) (As := [.ref (h0 0), .ref o]) (rest := []) ⟨hx, hb, hml, hown, hts⟩ (h_failedCommand l hl9 D cA ad hr h0 o od _ N  f g s0 s1 k v hc9 hq) qcw_L_failedCommand qml_L_374 qst_L_failedCommand qini_L (by decide +kernel) (by rw [eR]; rfl) hN9 hE hV hX hS hA hK hP hD (mid 8 288) (LW_hC _ _ _ _ _ _ _ _ _ _ _ _) (mid_nd _ _) rfl rfl hl.1 rfl (lv_room (Nat.le_of_ble_eq_true rfl)) dL_law_2979 ⟨by rw [eR]; show cells + 1 ≤ 603072; omega, by rw [eR]; show slots + 6 ≤ 7198826; omega⟩) hP hD hS hA (mid 8 288) (LW_hC _ _ _ _ _ _ _ _ _ _ _ _) (HW_fst _ _ _ _ _ _ _ _ _ _ _ _ _ _) (LW_hH _ _ _ _ _ _ _ _ _ _ _ _ _ _ _ _) (fun H locs hP hD hS => ?_)
  refine lv_istore (lv' := [(6, .int (iI (lawC [2] k : Int))), (5, .int (iI (i : Int))), (4, .ref od), (3, .ref o), (2, .ref (hm 0)), (1, .ref (h0 0)), (0, .ref b)]) hx hb dL_law_2982 hl (by decide) rfl (fun ls hl => ?_)
  refine lv_aload_n hx hb dL_law_2984 rfl (lv_at hl 4 rfl) ?_
  refine xCallH (w2 := LW cA ad hm hr h0 o od (fU k f v.toInt64) g sm9 s0 s1) (xRunV (n := 0) (As := []) (rest := []) ⟨hx, hb, hml, hown, hts⟩ (kX13_failedCommand l D cA hm _ N sm (v9, sm9) hm9) qco_X13_failedCommand qml_L_376 qin_X13_failedCommand qse_X13_failedCommand qini_X13 (by decide +kernel) (by rw [eR]; rfl) hK hP hD (mid 0 8) (LW_mC _ _ _ _ _ _ _ _ _ _ _ _) (mid_nd _ _) (q0 := 0) rfl rfl rfl rfl rfl hl.1 rfl (lv_room (Nat.le_of_ble_eq_true rfl)) dL_law_2985 ⟨by rw [eR]; show cells + 1 ≤ 603072; omega, by rw [eR]; show slots + 6 ≤ 7198826; omega⟩) hP hD hS hA (mid 0 8) (LW_mC _ _ _ _ _ _ _ _ _ _ _ _) rfl (LW_mH _ _ _ _ _ _ _ _ _ _ _ _ _) (fun H locs hP hD hS => ?_)
  refine lv_istore (lv' := [(7, .int v9), (6, .int (iI (lawC [2] k : Int))), (5, .int (iI (i : Int))), (4, .ref od), (3, .ref o), (2, .ref (hm 0)), (1, .ref (h0 0)), (0, .ref b)]) hx hb dL_law_2988 hl (by decide) rfl (fun ls hl => ?_)
  refine lv_aload_n hx hb dL_law_2990 rfl (lv_at hl 5 rfl) ?_
  refine xCallH (w2 := LW cA ad hm hr h0 o od (fU k f v.toInt64) g sm9 s0 s1) (xRunV (n := 0) (As := []) (rest := []) ⟨hx, hb, hml, hown, hts⟩ (kX13_thrown l D cA hm _ N sm9 _ rfl) qco_X13_thrown qml_L_184 qin_X13_thrown qse_X13_thrown qini_X13 (by decide +kernel) (by rw [eR]; rfl) hK hP hD (mid 0 8) (LW_mC _ _ _ _ _ _ _ _ _ _ _ _) (mid_nd _ _) (q0 := 0) rfl rfl rfl rfl rfl hl.1 rfl (lv_room (Nat.le_of_ble_eq_true rfl)) dL_law_2991 ⟨by rw [eR]; show cells + 1 ≤ 603072; omega, by rw [eR]; show slots + 6 ≤ 7198826; omega⟩) hP hD hS hA (mid 0 8) (LW_mC _ _ _ _ _ _ _ _ _ _ _ _) rfl (LW_mH _ _ _ _ _ _ _ _ _ _ _ _ _) (fun H locs hP hD hS => ?_)
  refine lv_iload hx hb dL_law_2994 (lv_at hl 1 rfl) ?_
  refine lv_icmp_eq (tgt := 3001) hx hb dL_law_2996 (by decide) (fun _ => ?_) (fun c9 => absurd hth c9)
  refine lv_iload hx hb dL_law_3001 (lv_at hl 1 rfl) ?_
  refine lv_if_ne (tgt := 3018) hx hb dL_law_3003 (by decide) (fun c9 => ?_) (fun c9 => ?_)
  · refine lv_goto (tgt := 3247) hx hb dL_law_3018 (by decide) ?_
    refine W.widen (k := cells + 3) (n := slots + 18) (by omega) (by omega) ?_
    exact kk _ _ _ _ _ hI9 _ _ hP hD hS _ (lv_sub hl [2, 3, 4, 5, 6, 7] rfl)
  · have hk : k = 0 := Classical.byContradiction fun hk => lawC_nz hk (by decide) c9
    subst hk
    have hvv := hv rfl
    subst hvv
    refine lv_aload_n hx hb dL_law_3006 rfl (lv_at hl 4 rfl) ?_
    refine lv_iconst (v := 0) hx hb dL_law_3007 (by decide) ?_
    refine va_lald hx hb hK hP 8 2 rfl rfl (x_lit (n := 1) (k := 0) (by decide)).1 dL_law_3008 ?_
    rw [fU_0]
    refine lv_iload hx hb dL_law_3009 (lv_at hl 0 rfl) ?_
    refine lv_i2l (v := v.toInt64) hx hb dL_law_3011 rfl ?_
    refine W.lcmp hx hb dL_law_3012 ?_
    rw [lg_self]
    refine lv_if_eq (tgt := 3018) hx hb dL_law_3013 (by decide) (fun _ => ?_) (fun c9 => absurd rfl c9)
    refine lv_goto (tgt := 3247) hx hb dL_law_3018 (by decide) ?_
    refine W.widen (k := cells + 3) (n := slots + 18) (by omega) (by omega) ?_
    exact kk _ _ _ _ _ hI9 _ _ hP hD hS _ (lv_sub hl [2, 3, 4, 5, 6, 7] rfl)
set_option maxRecDepth 100000 in
set_option maxHeartbeats 4000000 in
theorem v_writeEntry (C : LC p l R s m args c D cA ad A b L xs) (hN : 2000 ≤ N) (hi : i + 6 ≤ L) (hI : IV n s0 s1 sm) (hn : n + 1 ≤ 512) (hcl : cells + 3 ≤ 603072) (hsl : slots + 18 ≤ 7198826) (hP : va_P D vwCl (LW cA ad hm hr h0 o od f g sm s0 s1) H) (hD : va_D A (LW cA ad hm hr h0 o od f g sm s0 s1)) (hS : va_S A s.heap H locs) (hl : lv_has ls 9 [(5, .int (iI (i : Int))), (4, .ref od), (3, .ref o), (2, .ref (hm 0)), (1, .ref (h0 0)), (0, .ref b)])
    (kk : LK p l e R s m args below meth c cells slots Q D cA ad A b hm hr h0 o od i n) : W p l e R s m args below meth c H locs cells slots Q (F0 m 3021 ls []) := by
  obtain ⟨⟨hx, hb, hml, hown, hts⟩, hl9, eR, hN9, hE, hV, hX, hK, hA, hXs, hbl, hbA, hL9⟩ := C
  have hst := st_writeEntry (t := s0) (r := s1) (s := sm) hN hI hn (xs (i + 1))
  obtain ⟨k, v, v9, t9, sm9, hc9, hm9, hth, hq, hv, hI9⟩ := hst
  refine lv_aload_n hx hb dL_law_3021 rfl (lv_at hl 4 rfl) ?_
  refine lv_aload_n hx hb dL_law_3022 rfl (lv_at hl 5 rfl) ?_
  refine lv_iload hx hb dL_law_3023 (lv_at hl 0 rfl) ?_
  refine lv_iconst (v := 1) hx hb dL_law_3025 (by decide) ?_
  refine lv_iadd hx hb dL_law_3026 ?_
  refine vSld hx hb hXs hbl hbA hS (k := i + 1) (sIx1 hi hL9) dL_law_3027 ?_
  refine lv_aload_n hx hb dL_law_3028 rfl (lv_at hl 2 rfl) ?_
  refine hCall (w2 := LW cA ad hm hr h0 o od (fU k f v.toInt64) g sm t9 s1) (hRunS (n := 3) (As := [.ref (h0 0), .int (xs (i + 1)), .ref o]) (rest := []) ⟨hx, hb, hml, hown, hts⟩ (h_writeEntry l hl9 D cA ad hr h0 o od _ N ((xs (i + 1))) f g s0 s1 k v t9 hc9 hq) qcw_L_writeEntry qml_L_377 qst_L_writeEntry qini_L (by decide +kernel) (by rw [eR]; rfl) hN9 hE hV hX hS hA hK hP hD (mid 8 288) (LW_hC _ _ _ _ _ _ _ _ _ _ _ _) (mid_nd _ _) rfl rfl hl.1 rfl (lv_room (Nat.le_of_ble_eq_true rfl)) dL_law_3029 ⟨by rw [eR]; show cells + 1 ≤ 603072; omega, by rw [eR]; show slots + 6 ≤ 7198826; omega⟩) hP hD hS hA (mid 8 288) (LW_hC _ _ _ _ _ _ _ _ _ _ _ _) (HW_fst _ _ _ _ _ _ _ _ _ _ _ _ _ _) (LW_hH _ _ _ _ _ _ _ _ _ _ _ _ _ _ _ _) (fun H locs hP hD hS => ?_)
  refine lv_istore (lv' := [(6, .int (iI (lawC [2] k : Int))), (5, .int (iI (i : Int))), (4, .ref od), (3, .ref o), (2, .ref (hm 0)), (1, .ref (h0 0)), (0, .ref b)]) hx hb dL_law_3032 hl (by decide) rfl (fun ls hl => ?_)
  refine lv_aload_n hx hb dL_law_3034 rfl (lv_at hl 4 rfl) ?_
  refine lv_aload_n hx hb dL_law_3035 rfl (lv_at hl 6 rfl) ?_
  refine lv_iload hx hb dL_law_3036 (lv_at hl 1 rfl) ?_
  refine lv_iconst (v := 1) hx hb dL_law_3038 (by decide) ?_
  refine lv_iadd hx hb dL_law_3039 ?_
  refine vSld hx hb hXs hbl hbA hS (k := i + 1) (sIx1 hi hL9) dL_law_3040 ?_
  refine xCallH (w2 := LW cA ad hm hr h0 o od (fU k f v.toInt64) g sm9 t9 s1) (xRunV (n := 1) (As := [.int (xs (i + 1))]) (rest := []) ⟨hx, hb, hml, hown, hts⟩ (kX13_writeEntry l D cA hm _ N ((xs (i + 1))) sm (v9, sm9) hm9) qco_X13_writeEntry qml_L_379 qin_X13_writeEntry qse_X13_writeEntry qini_X13 (by decide +kernel) (by rw [eR]; rfl) hK hP hD (mid 0 8) (LW_mC _ _ _ _ _ _ _ _ _ _ _ _) (mid_nd _ _) (q0 := 0) rfl rfl rfl rfl rfl hl.1 rfl (lv_room (Nat.le_of_ble_eq_true rfl)) dL_law_3041 ⟨by rw [eR]; show cells + 1 ≤ 603072; omega, by rw [eR]; show slots + 6 ≤ 7198826; omega⟩) hP hD hS hA (mid 0 8) (LW_mC _ _ _ _ _ _ _ _ _ _ _ _) rfl (LW_mH _ _ _ _ _ _ _ _ _ _ _ _ _) (fun H locs hP hD hS => ?_)
  refine lv_istore (lv' := [(7, .int v9), (6, .int (iI (lawC [2] k : Int))), (5, .int (iI (i : Int))), (4, .ref od), (3, .ref o), (2, .ref (hm 0)), (1, .ref (h0 0)), (0, .ref b)]) hx hb dL_law_3044 hl (by decide) rfl (fun ls hl => ?_)
  refine lv_aload_n hx hb dL_law_3046 rfl (lv_at hl 5 rfl) ?_
  refine xCallH (w2 := LW cA ad hm hr h0 o od (fU k f v.toInt64) g sm9 t9 s1) (xRunV (n := 0) (As := []) (rest := []) ⟨hx, hb, hml, hown, hts⟩ (kX13_thrown l D cA hm _ N sm9 _ rfl) qco_X13_thrown qml_L_184 qin_X13_thrown qse_X13_thrown qini_X13 (by decide +kernel) (by rw [eR]; rfl) hK hP hD (mid 0 8) (LW_mC _ _ _ _ _ _ _ _ _ _ _ _) (mid_nd _ _) (q0 := 0) rfl rfl rfl rfl rfl hl.1 rfl (lv_room (Nat.le_of_ble_eq_true rfl)) dL_law_3047 ⟨by rw [eR]; show cells + 1 ≤ 603072; omega, by rw [eR]; show slots + 6 ≤ 7198826; omega⟩) hP hD hS hA (mid 0 8) (LW_mC _ _ _ _ _ _ _ _ _ _ _ _) rfl (LW_mH _ _ _ _ _ _ _ _ _ _ _ _ _) (fun H locs hP hD hS => ?_)
  refine lv_iload hx hb dL_law_3050 (lv_at hl 1 rfl) ?_
  refine lv_icmp_eq (tgt := 3057) hx hb dL_law_3052 (by decide) (fun _ => ?_) (fun c9 => absurd hth c9)
  refine lv_iload hx hb dL_law_3057 (lv_at hl 1 rfl) ?_
  refine lv_if_ne (tgt := 3074) hx hb dL_law_3059 (by decide) (fun c9 => ?_) (fun c9 => ?_)
  · refine lv_goto (tgt := 3247) hx hb dL_law_3074 (by decide) ?_
    refine W.widen (k := cells + 3) (n := slots + 18) (by omega) (by omega) ?_
    exact kk _ _ _ _ _ hI9 _ _ hP hD hS _ (lv_sub hl [2, 3, 4, 5, 6, 7] rfl)
  · have hk : k = 0 := Classical.byContradiction fun hk => lawC_nz hk (by decide) c9
    subst hk
    have hvv := hv rfl
    subst hvv
    refine lv_aload_n hx hb dL_law_3062 rfl (lv_at hl 4 rfl) ?_
    refine lv_iconst (v := 0) hx hb dL_law_3063 (by decide) ?_
    refine va_lald hx hb hK hP 8 2 rfl rfl (x_lit (n := 1) (k := 0) (by decide)).1 dL_law_3064 ?_
    rw [fU_0]
    refine lv_iload hx hb dL_law_3065 (lv_at hl 0 rfl) ?_
    refine lv_i2l (v := v.toInt64) hx hb dL_law_3067 rfl ?_
    refine W.lcmp hx hb dL_law_3068 ?_
    rw [lg_self]
    refine lv_if_eq (tgt := 3074) hx hb dL_law_3069 (by decide) (fun _ => ?_) (fun c9 => absurd rfl c9)
    refine lv_goto (tgt := 3247) hx hb dL_law_3074 (by decide) ?_
    refine W.widen (k := cells + 3) (n := slots + 18) (by omega) (by omega) ?_
    exact kk _ _ _ _ _ hI9 _ _ hP hD hS _ (lv_sub hl [2, 3, 4, 5, 6, 7] rfl)
set_option maxRecDepth 100000 in
set_option maxHeartbeats 4000000 in
theorem v_outputChar (C : LC p l R s m args c D cA ad A b L xs) (hN : 2000 ≤ N) (hi : i + 6 ≤ L) (hI : IV n s0 s1 sm) (hn : n + 1 ≤ 512) (hcl : cells + 3 ≤ 603072) (hsl : slots + 18 ≤ 7198826) (hP : va_P D vwCl (LW cA ad hm hr h0 o od f g sm s0 s1) H) (hD : va_D A (LW cA ad hm hr h0 o od f g sm s0 s1)) (hS : va_S A s.heap H locs) (hl : lv_has ls 9 [(5, .int (iI (i : Int))), (4, .ref od), (3, .ref o), (2, .ref (hm 0)), (1, .ref (h0 0)), (0, .ref b)])
    (kk : LK p l e R s m args below meth c cells slots Q D cA ad A b hm hr h0 o od i n) : W p l e R s m args below meth c H locs cells slots Q (F0 m 3077 ls []) := by
  obtain ⟨⟨hx, hb, hml, hown, hts⟩, hl9, eR, hN9, hE, hV, hX, hK, hA, hXs, hbl, hbA, hL9⟩ := C
  have hst := st_outputChar (t := s0) (r := s1) (s := sm) hN hI hn (xs (i + 1))
  obtain ⟨k, v, v9, sm9, hc9, hm9, hth, hq, hv, hI9⟩ := hst
  refine lv_aload_n hx hb dL_law_3077 rfl (lv_at hl 4 rfl) ?_
  refine lv_aload_n hx hb dL_law_3078 rfl (lv_at hl 5 rfl) ?_
  refine lv_iload hx hb dL_law_3079 (lv_at hl 0 rfl) ?_
  refine lv_iconst (v := 1) hx hb dL_law_3081 (by decide) ?_
  refine lv_iadd hx hb dL_law_3082 ?_
  refine vSld hx hb hXs hbl hbA hS (k := i + 1) (sIx1 hi hL9) dL_law_3083 ?_
  refine lv_aload_n hx hb dL_law_3084 rfl (lv_at hl 2 rfl) ?_
  refine hCall (w2 := LW cA ad hm hr h0 o od (fU k f v.toInt64) g sm s0 s1) (hRunS (n := 3) (As := [.ref (h0 0), .int (xs (i + 1)), .ref o]) (rest := []) ⟨hx, hb, hml, hown, hts⟩ (h_outputChar l hl9 D cA ad hr h0 o od _ N ((xs (i + 1))) f g s0 s1 k v hc9 hq) qcw_L_outputChar qml_L_380 qst_L_outputChar qini_L (by decide +kernel) (by rw [eR]; rfl) hN9 hE hV hX hS hA hK hP hD (mid 8 288) (LW_hC _ _ _ _ _ _ _ _ _ _ _ _) (mid_nd _ _) rfl rfl hl.1 rfl (lv_room (Nat.le_of_ble_eq_true rfl)) dL_law_3085 ⟨by rw [eR]; show cells + 1 ≤ 603072; omega, by rw [eR]; show slots + 6 ≤ 7198826; omega⟩) hP hD hS hA (mid 8 288) (LW_hC _ _ _ _ _ _ _ _ _ _ _ _) (HW_fst _ _ _ _ _ _ _ _ _ _ _ _ _ _) (LW_hH _ _ _ _ _ _ _ _ _ _ _ _ _ _ _ _) (fun H locs hP hD hS => ?_)
  refine lv_istore (lv' := [(6, .int (iI (lawC [1] k : Int))), (5, .int (iI (i : Int))), (4, .ref od), (3, .ref o), (2, .ref (hm 0)), (1, .ref (h0 0)), (0, .ref b)]) hx hb dL_law_3088 hl (by decide) rfl (fun ls hl => ?_)
  refine lv_aload_n hx hb dL_law_3090 rfl (lv_at hl 4 rfl) ?_
  refine lv_aload_n hx hb dL_law_3091 rfl (lv_at hl 6 rfl) ?_
  refine lv_iload hx hb dL_law_3092 (lv_at hl 1 rfl) ?_
  refine lv_iconst (v := 1) hx hb dL_law_3094 (by decide) ?_
  refine lv_iadd hx hb dL_law_3095 ?_
  refine vSld hx hb hXs hbl hbA hS (k := i + 1) (sIx1 hi hL9) dL_law_3096 ?_
  refine xCallH (w2 := LW cA ad hm hr h0 o od (fU k f v.toInt64) g sm9 s0 s1) (xRunV (n := 1) (As := [.int (xs (i + 1))]) (rest := []) ⟨hx, hb, hml, hown, hts⟩ (kX13_outputChar l D cA hm _ N ((xs (i + 1))) sm (v9, sm9) hm9) qco_X13_outputChar qml_L_382 qin_X13_outputChar qse_X13_outputChar qini_X13 (by decide +kernel) (by rw [eR]; rfl) hK hP hD (mid 0 8) (LW_mC _ _ _ _ _ _ _ _ _ _ _ _) (mid_nd _ _) (q0 := 0) rfl rfl rfl rfl rfl hl.1 rfl (lv_room (Nat.le_of_ble_eq_true rfl)) dL_law_3097 ⟨by rw [eR]; show cells + 1 ≤ 603072; omega, by rw [eR]; show slots + 6 ≤ 7198826; omega⟩) hP hD hS hA (mid 0 8) (LW_mC _ _ _ _ _ _ _ _ _ _ _ _) rfl (LW_mH _ _ _ _ _ _ _ _ _ _ _ _ _) (fun H locs hP hD hS => ?_)
  refine lv_istore (lv' := [(7, .int v9), (6, .int (iI (lawC [1] k : Int))), (5, .int (iI (i : Int))), (4, .ref od), (3, .ref o), (2, .ref (hm 0)), (1, .ref (h0 0)), (0, .ref b)]) hx hb dL_law_3100 hl (by decide) rfl (fun ls hl => ?_)
  refine lv_aload_n hx hb dL_law_3102 rfl (lv_at hl 5 rfl) ?_
  refine xCallH (w2 := LW cA ad hm hr h0 o od (fU k f v.toInt64) g sm9 s0 s1) (xRunV (n := 0) (As := []) (rest := []) ⟨hx, hb, hml, hown, hts⟩ (kX13_thrown l D cA hm _ N sm9 _ rfl) qco_X13_thrown qml_L_184 qin_X13_thrown qse_X13_thrown qini_X13 (by decide +kernel) (by rw [eR]; rfl) hK hP hD (mid 0 8) (LW_mC _ _ _ _ _ _ _ _ _ _ _ _) (mid_nd _ _) (q0 := 0) rfl rfl rfl rfl rfl hl.1 rfl (lv_room (Nat.le_of_ble_eq_true rfl)) dL_law_3103 ⟨by rw [eR]; show cells + 1 ≤ 603072; omega, by rw [eR]; show slots + 6 ≤ 7198826; omega⟩) hP hD hS hA (mid 0 8) (LW_mC _ _ _ _ _ _ _ _ _ _ _ _) rfl (LW_mH _ _ _ _ _ _ _ _ _ _ _ _ _) (fun H locs hP hD hS => ?_)
  refine lv_iload hx hb dL_law_3106 (lv_at hl 1 rfl) ?_
  refine lv_icmp_eq (tgt := 3113) hx hb dL_law_3108 (by decide) (fun _ => ?_) (fun c9 => absurd hth c9)
  refine lv_iload hx hb dL_law_3113 (lv_at hl 1 rfl) ?_
  refine lv_if_ne (tgt := 3130) hx hb dL_law_3115 (by decide) (fun c9 => ?_) (fun c9 => ?_)
  · refine lv_goto (tgt := 3247) hx hb dL_law_3130 (by decide) ?_
    refine W.widen (k := cells + 3) (n := slots + 18) (by omega) (by omega) ?_
    exact kk _ _ _ _ _ hI9 _ _ hP hD hS _ (lv_sub hl [2, 3, 4, 5, 6, 7] rfl)
  · have hk : k = 0 := Classical.byContradiction fun hk => lawC_nz hk (by decide) c9
    subst hk
    have hvv := hv rfl
    subst hvv
    refine lv_aload_n hx hb dL_law_3118 rfl (lv_at hl 4 rfl) ?_
    refine lv_iconst (v := 0) hx hb dL_law_3119 (by decide) ?_
    refine va_lald hx hb hK hP 8 2 rfl rfl (x_lit (n := 1) (k := 0) (by decide)).1 dL_law_3120 ?_
    rw [fU_0]
    refine lv_iload hx hb dL_law_3121 (lv_at hl 0 rfl) ?_
    refine lv_i2l (v := v.toInt64) hx hb dL_law_3123 rfl ?_
    refine W.lcmp hx hb dL_law_3124 ?_
    rw [lg_self]
    refine lv_if_eq (tgt := 3130) hx hb dL_law_3125 (by decide) (fun _ => ?_) (fun c9 => absurd rfl c9)
    refine lv_goto (tgt := 3247) hx hb dL_law_3130 (by decide) ?_
    refine W.widen (k := cells + 3) (n := slots + 18) (by omega) (by omega) ?_
    exact kk _ _ _ _ _ hI9 _ _ hP hD hS _ (lv_sub hl [2, 3, 4, 5, 6, 7] rfl)
set_option maxRecDepth 100000 in
set_option maxHeartbeats 4000000 in
theorem v_undoCount (C : LC p l R s m args c D cA ad A b L xs) (hN : 2000 ≤ N) (hi : i + 6 ≤ L) (hI : IV n s0 s1 sm) (hn : n + 1 ≤ 512) (hcl : cells + 3 ≤ 603072) (hsl : slots + 18 ≤ 7198826) (hP : va_P D vwCl (LW cA ad hm hr h0 o od f g sm s0 s1) H) (hD : va_D A (LW cA ad hm hr h0 o od f g sm s0 s1)) (hS : va_S A s.heap H locs) (hl : lv_has ls 9 [(5, .int (iI (i : Int))), (4, .ref od), (3, .ref o), (2, .ref (hm 0)), (1, .ref (h0 0)), (0, .ref b)])
    (kk : LK p l e R s m args below meth c cells slots Q D cA ad A b hm hr h0 o od i n) : W p l e R s m args below meth c H locs cells slots Q (F0 m 3133 ls []) := by
  obtain ⟨⟨hx, hb, hml, hown, hts⟩, hl9, eR, hN9, hE, hV, hX, hK, hA, hXs, hbl, hbA, hL9⟩ := C
  have hst := st_undoCount (t := s0) (r := s1) (s := sm) hN hI hn
  obtain ⟨v, sm9, hc9, hm9, hI9⟩ := hst
  refine lv_aload_n hx hb dL_law_3133 rfl (lv_at hl 4 rfl) ?_
  refine xCallH (w2 := LW cA ad hm hr h0 o od f g sm s0 s1) (zRunV (n := 0) (As := []) (rest := []) ⟨hx, hb, hml, hown, hts⟩ (kX12_undoCount l D cA ad hr h0 _ N s0 v hc9) qco_X12_undoCount qml_L_383 qin_X12_undoCount qse_X12_undoCount qini_X12 (by decide +kernel) (by rw [eR]; rfl) hN9 hE hS hA hK hP hD (mid 10 61) (LW_tC _ _ _ _ _ _ _ _ _ _ _ _) (mid_nd _ _) (q0 := 0) rfl rfl rfl rfl rfl hl.1 rfl (lv_room (Nat.le_of_ble_eq_true rfl)) dL_law_3134 ⟨by rw [eR]; show cells + 0 ≤ 603072; omega, by rw [eR]; show slots + 0 ≤ 7198826; omega⟩) hP hD hS hA (mid 10 61) (LW_tC _ _ _ _ _ _ _ _ _ _ _ _) rfl (LW_tH _ _ _ _ _ _ _ _ _ _ _ _ _) (fun H locs hP hD hS => ?_)
  refine lv_aload_n hx hb dL_law_3137 rfl (lv_at hl 3 rfl) ?_
  refine xCallH (w2 := LW cA ad hm hr h0 o od f g sm9 s0 s1) (xRunV (n := 0) (As := []) (rest := [.int v]) ⟨hx, hb, hml, hown, hts⟩ (kX13_undoCount l D cA hm _ N sm (v, sm9) hm9) qco_X13_undoCount qml_L_386 qin_X13_undoCount qse_X13_undoCount qini_X13 (by decide +kernel) (by rw [eR]; rfl) hK hP hD (mid 0 8) (LW_mC _ _ _ _ _ _ _ _ _ _ _ _) (mid_nd _ _) (q0 := 0) rfl rfl rfl rfl rfl hl.1 rfl (lv_room (Nat.le_of_ble_eq_true rfl)) dL_law_3138 ⟨by rw [eR]; show cells + 0 ≤ 603072; omega, by rw [eR]; show slots + 0 ≤ 7198826; omega⟩) hP hD hS hA (mid 0 8) (LW_mC _ _ _ _ _ _ _ _ _ _ _ _) rfl (LW_mH _ _ _ _ _ _ _ _ _ _ _ _ _) (fun H locs hP hD hS => ?_)
  refine lv_icmp_eq (tgt := 3247) hx hb dL_law_3141 (by decide) (fun _ => ?_) (fun c9 => absurd rfl c9)
  refine W.widen (k := cells + 3) (n := slots + 18) (by omega) (by omega) ?_
  exact kk _ _ _ _ _ hI9 _ _ hP hD hS _ (lv_sub hl [0, 1, 2, 3, 4, 5] rfl)
set_option maxRecDepth 100000 in
set_option maxHeartbeats 4000000 in
theorem v_undo (C : LC p l R s m args c D cA ad A b L xs) (hN : 2000 ≤ N) (hi : i + 6 ≤ L) (hI : IV n s0 s1 sm) (hn : n + 1 ≤ 512) (hcl : cells + 3 ≤ 603072) (hsl : slots + 18 ≤ 7198826) (hP : va_P D vwCl (LW cA ad hm hr h0 o od f g sm s0 s1) H) (hD : va_D A (LW cA ad hm hr h0 o od f g sm s0 s1)) (hS : va_S A s.heap H locs) (hl : lv_has ls 9 [(5, .int (iI (i : Int))), (4, .ref od), (3, .ref o), (2, .ref (hm 0)), (1, .ref (h0 0)), (0, .ref b)])
    (kk : LK p l e R s m args below meth c cells slots Q D cA ad A b hm hr h0 o od i n) : W p l e R s m args below meth c H locs cells slots Q (F0 m 3146 ls []) := by
  obtain ⟨⟨hx, hb, hml, hown, hts⟩, hl9, eR, hN9, hE, hV, hX, hK, hA, hXs, hbl, hbA, hL9⟩ := C
  have hst := st_undo (t := s0) (r := s1) (s := sm) hN hI hn
  obtain ⟨k, v, v9, t9, r9, sm9, hc9, hm9, hth, hq, hv, hI9⟩ := hst
  refine lv_aload_n hx hb dL_law_3146 rfl (lv_at hl 4 rfl) ?_
  refine lv_aload_n hx hb dL_law_3147 rfl (lv_at hl 2 rfl) ?_
  refine hCall (w2 := LW cA ad hm hr h0 o od (fU k f v.toInt64) g sm t9 r9) (hRunS (n := 2) (As := [.ref (h0 0), .ref o]) (rest := []) ⟨hx, hb, hml, hown, hts⟩ (h_undo l hl9 D cA ad hr h0 o od _ N  f g s0 s1 k v t9 r9 hc9 hq) qcw_L_undo qml_L_387 qst_L_undo qini_L (by decide +kernel) (by rw [eR]; rfl) hN9 hE hV hX hS hA hK hP hD (mid 8 288) (LW_hC _ _ _ _ _ _ _ _ _ _ _ _) (mid_nd _ _) rfl rfl hl.1 rfl (lv_room (Nat.le_of_ble_eq_true rfl)) dL_law_3148 ⟨by rw [eR]; show cells + 1 ≤ 603072; omega, by rw [eR]; show slots + 6 ≤ 7198826; omega⟩) hP hD hS hA (mid 8 288) (LW_hC _ _ _ _ _ _ _ _ _ _ _ _) (HW_fst _ _ _ _ _ _ _ _ _ _ _ _ _ _) (LW_hH _ _ _ _ _ _ _ _ _ _ _ _ _ _ _ _) (fun H locs hP hD hS => ?_)
  refine lv_istore (lv' := [(6, .int (iI (lawC [4] k : Int))), (5, .int (iI (i : Int))), (4, .ref od), (3, .ref o), (2, .ref (hm 0)), (1, .ref (h0 0)), (0, .ref b)]) hx hb dL_law_3151 hl (by decide) rfl (fun ls hl => ?_)
  refine lv_aload_n hx hb dL_law_3153 rfl (lv_at hl 4 rfl) ?_
  refine xCallH (w2 := LW cA ad hm hr h0 o od (fU k f v.toInt64) g sm9 t9 r9) (xRunV (n := 0) (As := []) (rest := []) ⟨hx, hb, hml, hown, hts⟩ (kX13_undo l D cA hm _ N sm (v9, sm9) hm9) qco_X13_undo qml_L_389 qin_X13_undo qse_X13_undo qini_X13 (by decide +kernel) (by rw [eR]; rfl) hK hP hD (mid 0 8) (LW_mC _ _ _ _ _ _ _ _ _ _ _ _) (mid_nd _ _) (q0 := 0) rfl rfl rfl rfl rfl hl.1 rfl (lv_room (Nat.le_of_ble_eq_true rfl)) dL_law_3154 ⟨by rw [eR]; show cells + 1 ≤ 603072; omega, by rw [eR]; show slots + 6 ≤ 7198826; omega⟩) hP hD hS hA (mid 0 8) (LW_mC _ _ _ _ _ _ _ _ _ _ _ _) rfl (LW_mH _ _ _ _ _ _ _ _ _ _ _ _ _) (fun H locs hP hD hS => ?_)
  refine lv_istore (lv' := [(7, .int v9), (6, .int (iI (lawC [4] k : Int))), (5, .int (iI (i : Int))), (4, .ref od), (3, .ref o), (2, .ref (hm 0)), (1, .ref (h0 0)), (0, .ref b)]) hx hb dL_law_3157 hl (by decide) rfl (fun ls hl => ?_)
  refine lv_aload_n hx hb dL_law_3159 rfl (lv_at hl 5 rfl) ?_
  refine xCallH (w2 := LW cA ad hm hr h0 o od (fU k f v.toInt64) g sm9 t9 r9) (xRunV (n := 0) (As := []) (rest := []) ⟨hx, hb, hml, hown, hts⟩ (kX13_thrown l D cA hm _ N sm9 _ rfl) qco_X13_thrown qml_L_184 qin_X13_thrown qse_X13_thrown qini_X13 (by decide +kernel) (by rw [eR]; rfl) hK hP hD (mid 0 8) (LW_mC _ _ _ _ _ _ _ _ _ _ _ _) (mid_nd _ _) (q0 := 0) rfl rfl rfl rfl rfl hl.1 rfl (lv_room (Nat.le_of_ble_eq_true rfl)) dL_law_3160 ⟨by rw [eR]; show cells + 1 ≤ 603072; omega, by rw [eR]; show slots + 6 ≤ 7198826; omega⟩) hP hD hS hA (mid 0 8) (LW_mC _ _ _ _ _ _ _ _ _ _ _ _) rfl (LW_mH _ _ _ _ _ _ _ _ _ _ _ _ _) (fun H locs hP hD hS => ?_)
  refine lv_iload hx hb dL_law_3163 (lv_at hl 1 rfl) ?_
  refine lv_icmp_eq (tgt := 3170) hx hb dL_law_3165 (by decide) (fun _ => ?_) (fun c9 => absurd hth c9)
  refine lv_iload hx hb dL_law_3170 (lv_at hl 1 rfl) ?_
  refine lv_if_ne (tgt := 3187) hx hb dL_law_3172 (by decide) (fun c9 => ?_) (fun c9 => ?_)
  · refine lv_goto (tgt := 3247) hx hb dL_law_3187 (by decide) ?_
    refine W.widen (k := cells + 3) (n := slots + 18) (by omega) (by omega) ?_
    exact kk _ _ _ _ _ hI9 _ _ hP hD hS _ (lv_sub hl [2, 3, 4, 5, 6, 7] rfl)
  · have hk : k = 0 := Classical.byContradiction fun hk => lawC_nz hk (by decide) c9
    subst hk
    have hvv := hv rfl
    subst hvv
    refine lv_aload_n hx hb dL_law_3175 rfl (lv_at hl 4 rfl) ?_
    refine lv_iconst (v := 0) hx hb dL_law_3176 (by decide) ?_
    refine va_lald hx hb hK hP 8 2 rfl rfl (x_lit (n := 1) (k := 0) (by decide)).1 dL_law_3177 ?_
    rw [fU_0]
    refine lv_iload hx hb dL_law_3178 (lv_at hl 0 rfl) ?_
    refine lv_i2l (v := v.toInt64) hx hb dL_law_3180 rfl ?_
    refine W.lcmp hx hb dL_law_3181 ?_
    rw [lg_self]
    refine lv_if_eq (tgt := 3187) hx hb dL_law_3182 (by decide) (fun _ => ?_) (fun c9 => absurd rfl c9)
    refine lv_goto (tgt := 3247) hx hb dL_law_3187 (by decide) ?_
    refine W.widen (k := cells + 3) (n := slots + 18) (by omega) (by omega) ?_
    exact kk _ _ _ _ _ hI9 _ _ hP hD hS _ (lv_sub hl [2, 3, 4, 5, 6, 7] rfl)
set_option maxRecDepth 100000 in
set_option maxHeartbeats 4000000 in
theorem v_save (C : LC p l R s m args c D cA ad A b L xs) (hN : 2000 ≤ N) (hi : i + 6 ≤ L) (hI : IV n s0 s1 sm) (hn : n + 1 ≤ 512) (hcl : cells + 3 ≤ 603072) (hsl : slots + 18 ≤ 7198826) (hP : va_P D vwCl (LW cA ad hm hr h0 o od f g sm s0 s1) H) (hD : va_D A (LW cA ad hm hr h0 o od f g sm s0 s1)) (hS : va_S A s.heap H locs) (hl : lv_has ls 9 [(5, .int (iI (i : Int))), (4, .ref od), (3, .ref o), (2, .ref (hm 0)), (1, .ref (h0 0)), (0, .ref b)])
    (kk : LK p l e R s m args below meth c cells slots Q D cA ad A b hm hr h0 o od i n) : W p l e R s m args below meth c H locs cells slots Q (F0 m 3190 ls []) := by
  obtain ⟨⟨hx, hb, hml, hown, hts⟩, hl9, eR, hN9, hE, hV, hX, hK, hA, hXs, hbl, hbA, hL9⟩ := C
  have hst := st_save (t := s0) (r := s1) (s := sm) hN hI hn
  obtain ⟨v, t9, sm9, hc9, hm9, hI9⟩ := hst
  refine lv_aload_n hx hb dL_law_3190 rfl (lv_at hl 4 rfl) ?_
  refine xCallH (w2 := LW cA ad hm hr h0 o od f g sm t9 s1) (zRunV (n := 0) (As := []) (rest := []) ⟨hx, hb, hml, hown, hts⟩ (kX12_save l D cA ad hr h0 _ N s0 (v, t9) hc9) qco_X12_save qml_L_390 qin_X12_save qse_X12_save qini_X12 (by decide +kernel) (by rw [eR]; rfl) hN9 hE hS hA hK hP hD (mid 10 61) (LW_tC _ _ _ _ _ _ _ _ _ _ _ _) (mid_nd _ _) (q0 := 0) rfl rfl rfl rfl rfl hl.1 rfl (lv_room (Nat.le_of_ble_eq_true rfl)) dL_law_3191 ⟨by rw [eR]; show cells + 0 ≤ 603072; omega, by rw [eR]; show slots + 0 ≤ 7198826; omega⟩) hP hD hS hA (mid 10 61) (LW_tC _ _ _ _ _ _ _ _ _ _ _ _) rfl (LW_tH _ _ _ _ _ _ _ _ _ _ _ _ _) (fun H locs hP hD hS => ?_)
  refine lv_aload_n hx hb dL_law_3194 rfl (lv_at hl 3 rfl) ?_
  refine xCallH (w2 := LW cA ad hm hr h0 o od f g sm9 t9 s1) (xRunV (n := 0) (As := []) (rest := [.int v]) ⟨hx, hb, hml, hown, hts⟩ (kX13_save l D cA hm _ N sm (v, sm9) hm9) qco_X13_save qml_L_393 qin_X13_save qse_X13_save qini_X13 (by decide +kernel) (by rw [eR]; rfl) hK hP hD (mid 0 8) (LW_mC _ _ _ _ _ _ _ _ _ _ _ _) (mid_nd _ _) (q0 := 0) rfl rfl rfl rfl rfl hl.1 rfl (lv_room (Nat.le_of_ble_eq_true rfl)) dL_law_3195 ⟨by rw [eR]; show cells + 0 ≤ 603072; omega, by rw [eR]; show slots + 0 ≤ 7198826; omega⟩) hP hD hS hA (mid 0 8) (LW_mC _ _ _ _ _ _ _ _ _ _ _ _) rfl (LW_mH _ _ _ _ _ _ _ _ _ _ _ _ _) (fun H locs hP hD hS => ?_)
  refine lv_icmp_eq (tgt := 3247) hx hb dL_law_3198 (by decide) (fun _ => ?_) (fun c9 => absurd rfl c9)
  refine W.widen (k := cells + 3) (n := slots + 18) (by omega) (by omega) ?_
  exact kk _ _ _ _ _ hI9 _ _ hP hD hS _ (lv_sub hl [0, 1, 2, 3, 4, 5] rfl)
set_option maxRecDepth 100000 in
set_option maxHeartbeats 4000000 in
theorem v_restore (C : LC p l R s m args c D cA ad A b L xs) (hN : 2000 ≤ N) (hi : i + 6 ≤ L) (hI : IV n s0 s1 sm) (hn : n + 1 ≤ 512) (hcl : cells + 3 ≤ 603072) (hsl : slots + 18 ≤ 7198826) (hP : va_P D vwCl (LW cA ad hm hr h0 o od f g sm s0 s1) H) (hD : va_D A (LW cA ad hm hr h0 o od f g sm s0 s1)) (hS : va_S A s.heap H locs) (hl : lv_has ls 9 [(5, .int (iI (i : Int))), (4, .ref od), (3, .ref o), (2, .ref (hm 0)), (1, .ref (h0 0)), (0, .ref b)])
    (kk : LK p l e R s m args below meth c cells slots Q D cA ad A b hm hr h0 o od i n) : W p l e R s m args below meth c H locs cells slots Q (F0 m 3203 ls []) := by
  obtain ⟨⟨hx, hb, hml, hown, hts⟩, hl9, eR, hN9, hE, hV, hX, hK, hA, hXs, hbl, hbA, hL9⟩ := C
  have hst := st_restore (t := s0) (r := s1) (s := sm) hN hI hn
  obtain ⟨k, v, v9, t9, sm9, hc9, hm9, hth, hq, hv, hI9⟩ := hst
  refine lv_aload_n hx hb dL_law_3203 rfl (lv_at hl 4 rfl) ?_
  refine lv_aload_n hx hb dL_law_3204 rfl (lv_at hl 2 rfl) ?_
  refine hCall (w2 := LW cA ad hm hr h0 o od (fU k f v.toInt64) g sm t9 s1) (hRunS (n := 2) (As := [.ref (h0 0), .ref o]) (rest := []) ⟨hx, hb, hml, hown, hts⟩ (h_restore l hl9 D cA ad hr h0 o od _ N  f g s0 s1 k v t9 hc9 hq) qcw_L_restore qml_L_394 qst_L_restore qini_L (by decide +kernel) (by rw [eR]; rfl) hN9 hE hV hX hS hA hK hP hD (mid 8 288) (LW_hC _ _ _ _ _ _ _ _ _ _ _ _) (mid_nd _ _) rfl rfl hl.1 rfl (lv_room (Nat.le_of_ble_eq_true rfl)) dL_law_3205 ⟨by rw [eR]; show cells + 1 ≤ 603072; omega, by rw [eR]; show slots + 6 ≤ 7198826; omega⟩) hP hD hS hA (mid 8 288) (LW_hC _ _ _ _ _ _ _ _ _ _ _ _) (HW_fst _ _ _ _ _ _ _ _ _ _ _ _ _ _) (LW_hH _ _ _ _ _ _ _ _ _ _ _ _ _ _ _ _) (fun H locs hP hD hS => ?_)
  refine lv_istore (lv' := [(6, .int (iI (lawC [4] k : Int))), (5, .int (iI (i : Int))), (4, .ref od), (3, .ref o), (2, .ref (hm 0)), (1, .ref (h0 0)), (0, .ref b)]) hx hb dL_law_3208 hl (by decide) rfl (fun ls hl => ?_)
  refine lv_aload_n hx hb dL_law_3210 rfl (lv_at hl 4 rfl) ?_
  refine xCallH (w2 := LW cA ad hm hr h0 o od (fU k f v.toInt64) g sm9 t9 s1) (xRunV (n := 0) (As := []) (rest := []) ⟨hx, hb, hml, hown, hts⟩ (kX13_restore l D cA hm _ N sm (v9, sm9) hm9) qco_X13_restore qml_L_396 qin_X13_restore qse_X13_restore qini_X13 (by decide +kernel) (by rw [eR]; rfl) hK hP hD (mid 0 8) (LW_mC _ _ _ _ _ _ _ _ _ _ _ _) (mid_nd _ _) (q0 := 0) rfl rfl rfl rfl rfl hl.1 rfl (lv_room (Nat.le_of_ble_eq_true rfl)) dL_law_3211 ⟨by rw [eR]; show cells + 1 ≤ 603072; omega, by rw [eR]; show slots + 6 ≤ 7198826; omega⟩) hP hD hS hA (mid 0 8) (LW_mC _ _ _ _ _ _ _ _ _ _ _ _) rfl (LW_mH _ _ _ _ _ _ _ _ _ _ _ _ _) (fun H locs hP hD hS => ?_)
  refine lv_istore (lv' := [(7, .int v9), (6, .int (iI (lawC [4] k : Int))), (5, .int (iI (i : Int))), (4, .ref od), (3, .ref o), (2, .ref (hm 0)), (1, .ref (h0 0)), (0, .ref b)]) hx hb dL_law_3214 hl (by decide) rfl (fun ls hl => ?_)
  refine lv_aload_n hx hb dL_law_3216 rfl (lv_at hl 5 rfl) ?_
  refine xCallH (w2 := LW cA ad hm hr h0 o od (fU k f v.toInt64) g sm9 t9 s1) (xRunV (n := 0) (As := []) (rest := []) ⟨hx, hb, hml, hown, hts⟩ (kX13_thrown l D cA hm _ N sm9 _ rfl) qco_X13_thrown qml_L_184 qin_X13_thrown qse_X13_thrown qini_X13 (by decide +kernel) (by rw [eR]; rfl) hK hP hD (mid 0 8) (LW_mC _ _ _ _ _ _ _ _ _ _ _ _) (mid_nd _ _) (q0 := 0) rfl rfl rfl rfl rfl hl.1 rfl (lv_room (Nat.le_of_ble_eq_true rfl)) dL_law_3217 ⟨by rw [eR]; show cells + 1 ≤ 603072; omega, by rw [eR]; show slots + 6 ≤ 7198826; omega⟩) hP hD hS hA (mid 0 8) (LW_mC _ _ _ _ _ _ _ _ _ _ _ _) rfl (LW_mH _ _ _ _ _ _ _ _ _ _ _ _ _) (fun H locs hP hD hS => ?_)
  refine lv_iload hx hb dL_law_3220 (lv_at hl 1 rfl) ?_
  refine lv_icmp_eq (tgt := 3227) hx hb dL_law_3222 (by decide) (fun _ => ?_) (fun c9 => absurd hth c9)
  refine lv_iload hx hb dL_law_3227 (lv_at hl 1 rfl) ?_
  refine lv_if_ne (tgt := 3244) hx hb dL_law_3229 (by decide) (fun c9 => ?_) (fun c9 => ?_)
  · refine lv_goto (tgt := 3247) hx hb dL_law_3244 (by decide) ?_
    refine W.widen (k := cells + 3) (n := slots + 18) (by omega) (by omega) ?_
    exact kk _ _ _ _ _ hI9 _ _ hP hD hS _ (lv_sub hl [2, 3, 4, 5, 6, 7] rfl)
  · have hk : k = 0 := Classical.byContradiction fun hk => lawC_nz hk (by decide) c9
    subst hk
    have hvv := hv rfl
    subst hvv
    refine lv_aload_n hx hb dL_law_3232 rfl (lv_at hl 4 rfl) ?_
    refine lv_iconst (v := 0) hx hb dL_law_3233 (by decide) ?_
    refine va_lald hx hb hK hP 8 2 rfl rfl (x_lit (n := 1) (k := 0) (by decide)).1 dL_law_3234 ?_
    rw [fU_0]
    refine lv_iload hx hb dL_law_3235 (lv_at hl 0 rfl) ?_
    refine lv_i2l (v := v.toInt64) hx hb dL_law_3237 rfl ?_
    refine W.lcmp hx hb dL_law_3238 ?_
    rw [lg_self]
    refine lv_if_eq (tgt := 3244) hx hb dL_law_3239 (by decide) (fun _ => ?_) (fun c9 => absurd rfl c9)
    refine lv_goto (tgt := 3247) hx hb dL_law_3244 (by decide) ?_
    refine W.widen (k := cells + 3) (n := slots + 18) (by omega) (by omega) ?_
    exact kk _ _ _ _ _ hI9 _ _ hP hD hS _ (lv_sub hl [2, 3, 4, 5, 6, 7] rfl)
end CASES
