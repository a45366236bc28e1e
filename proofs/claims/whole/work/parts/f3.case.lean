/-! cases -/
section CASES
variable {p : Program} {l : Launch} {e : Env} {R : Room} {s : State} {m : MethodId} {args : Array Value} {below : List Frame} {meth : Method} {c : Code} {H : Heap} {locs : List Loc} {cells slots : Nat} {Q : State → Prop}
variable {ls : Array Slot} {D : va_G} {cA : Nat → ClassId} {ad : Nat → Nat} {A : Nat → Prop} {b L : Nat} {xs : Nat → Int32} {hm : Nat → Nat} {hr : Nat → Nat → Nat} {h0 : Nat → Nat} {o od N i n : Nat} {f : Nat → Int64} {g : Nat → UInt64} {s0 : ThlS} {s1 : Nat → BooS} {sm : MS}
set_option maxRecDepth 100000 in
set_option maxHeartbeats 4000000 in
theorem v_hoursUntilPrompt (C : LC p l R s m args c D cA ad A b L xs) (hN : 2000 ≤ N) (hi : i + 6 ≤ L) (hI : IV n s0 s1 sm) (hn : n + 1 ≤ 512) (hcl : cells + 3 ≤ 603072) (hsl : slots + 18 ≤ 7198826) (hP : va_P D vwCl (LW cA ad hm hr h0 o od f g sm s0 s1) H) (hD : va_D A (LW cA ad hm hr h0 o od f g sm s0 s1)) (hS : va_S A s.heap H locs) (hl : lv_has ls 9 [(5, .int (iI (i : Int))), (4, .ref od), (3, .ref o), (2, .ref (hm 0)), (1, .ref (h0 0)), (0, .ref b)])
    (kk : LK p l e R s m args below meth c cells slots Q D cA ad A b hm hr h0 o od i n) : W p l e R s m args below meth c H locs cells slots Q (F0 m 1918 ls []) := by
  obtain ⟨⟨hx, hb, hml, hown, hts⟩, hl9, eR, hN9, hE, hV, hX, hK, hA, hXs, hbl, hbA, hL9⟩ := C
  have hst := st_hoursUntilPrompt (t := s0) (r := s1) (s := sm) hN hI hn (xs (i + 1))
  obtain ⟨k, v, v9, sm9, hc9, hm9, hth, hq, hv, hI9⟩ := hst
  refine lv_aload_n hx hb dL_law_1918 rfl (lv_at hl 4 rfl) ?_
  refine lv_aload_n hx hb dL_law_1919 rfl (lv_at hl 5 rfl) ?_
  refine lv_iload hx hb dL_law_1920 (lv_at hl 0 rfl) ?_
  refine lv_iconst (v := 1) hx hb dL_law_1922 (by decide) ?_
  refine lv_iadd hx hb dL_law_1923 ?_
  refine vSld hx hb hXs hbl hbA hS (k := i + 1) (sIx1 hi hL9) dL_law_1924 ?_
  refine lv_aload_n hx hb dL_law_1925 rfl (lv_at hl 2 rfl) ?_
  refine hCall (w2 := LW cA ad hm hr h0 o od (fU k f v.toInt64) g sm s0 s1) (hRunS (n := 3) (As := [.ref (h0 0), .int (xs (i + 1)), .ref o]) (rest := []) ⟨hx, hb, hml, hown, hts⟩ (h_hoursUntilPrompt l hl9 D cA ad hr h0 o od _ N ((xs (i + 1))) f g s0 s1 k v hc9 hq) qcw_L_hoursUntilPrompt qml_L_296 qst_L_hoursUntilPrompt qini_L (by decide +kernel) (by rw [eR]; rfl) hN9 hE hV hX hS hA hK hP hD (mid 8 288) (LW_hC _ _ _ _ _ _ _ _ _ _ _ _) (mid_nd _ _) rfl rfl hl.1 rfl (lv_room (Nat.le_of_ble_eq_true rfl)) dL_law_1926 ⟨by rw [eR]; show cells + 1 ≤ 603072; omega, by rw [eR]; show slots + 6 ≤ 7198826; omega⟩) hP hD hS hA (mid 8 288) (LW_hC _ _ _ _ _ _ _ _ _ _ _ _) (HW_fst _ _ _ _ _ _ _ _ _ _ _ _ _ _) (LW_hH _ _ _ _ _ _ _ _ _ _ _ _ _ _ _ _) (fun H locs hP hD hS => ?_)
  refine lv_istore (lv' := [(6, .int (iI (lawC [1] k : Int))), (5, .int (iI (i : Int))), (4, .ref od), (3, .ref o), (2, .ref (hm 0)), (1, .ref (h0 0)), (0, .ref b)]) hx hb dL_law_1929 hl (by decide) rfl (fun ls hl => ?_)
  refine lv_aload_n hx hb dL_law_1931 rfl (lv_at hl 4 rfl) ?_
  refine lv_aload_n hx hb dL_law_1932 rfl (lv_at hl 6 rfl) ?_
  refine lv_iload hx hb dL_law_1933 (lv_at hl 1 rfl) ?_
  refine lv_iconst (v := 1) hx hb dL_law_1935 (by decide) ?_
  refine lv_iadd hx hb dL_law_1936 ?_
  refine vSld hx hb hXs hbl hbA hS (k := i + 1) (sIx1 hi hL9) dL_law_1937 ?_
  refine xCallH (w2 := LW cA ad hm hr h0 o od (fU k f v.toInt64) g sm9 s0 s1) (xRunV (n := 1) (As := [.int (xs (i + 1))]) (rest := []) ⟨hx, hb, hml, hown, hts⟩ (kX13_hoursUntilPrompt l D cA hm _ N ((xs (i + 1))) sm (v9, sm9) hm9) qco_X13_hoursUntilPrompt qml_L_298 qin_X13_hoursUntilPrompt qse_X13_hoursUntilPrompt qini_X13 (by decide +kernel) (by rw [eR]; rfl) hK hP hD (mid 0 8) (LW_mC _ _ _ _ _ _ _ _ _ _ _ _) (mid_nd _ _) (q0 := 0) rfl rfl rfl rfl rfl hl.1 rfl (lv_room (Nat.le_of_ble_eq_true rfl)) dL_law_1938 ⟨by rw [eR]; show cells + 1 ≤ 603072; omega, by rw [eR]; show slots + 6 ≤ 7198826; omega⟩) hP hD hS hA (mid 0 8) (LW_mC _ _ _ _ _ _ _ _ _ _ _ _) rfl (LW_mH _ _ _ _ _ _ _ _ _ _ _ _ _) (fun H locs hP hD hS => ?_)
  refine lv_istore (lv' := [(7, .int v9), (6, .int (iI (lawC [1] k : Int))), (5, .int (iI (i : Int))), (4, .ref od), (3, .ref o), (2, .ref (hm 0)), (1, .ref (h0 0)), (0, .ref b)]) hx hb dL_law_1941 hl (by decide) rfl (fun ls hl => ?_)
  refine lv_aload_n hx hb dL_law_1943 rfl (lv_at hl 5 rfl) ?_
  refine xCallH (w2 := LW cA ad hm hr h0 o od (fU k f v.toInt64) g sm9 s0 s1) (xRunV (n := 0) (As := []) (rest := []) ⟨hx, hb, hml, hown, hts⟩ (kX13_thrown l D cA hm _ N sm9 _ rfl) qco_X13_thrown qml_L_184 qin_X13_thrown qse_X13_thrown qini_X13 (by decide +kernel) (by rw [eR]; rfl) hK hP hD (mid 0 8) (LW_mC _ _ _ _ _ _ _ _ _ _ _ _) (mid_nd _ _) (q0 := 0) rfl rfl rfl rfl rfl hl.1 rfl (lv_room (Nat.le_of_ble_eq_true rfl)) dL_law_1944 ⟨by rw [eR]; show cells + 1 ≤ 603072; omega, by rw [eR]; show slots + 6 ≤ 7198826; omega⟩) hP hD hS hA (mid 0 8) (LW_mC _ _ _ _ _ _ _ _ _ _ _ _) rfl (LW_mH _ _ _ _ _ _ _ _ _ _ _ _ _) (fun H locs hP hD hS => ?_)
  refine lv_iload hx hb dL_law_1947 (lv_at hl 1 rfl) ?_
  refine lv_icmp_eq (tgt := 1954) hx hb dL_law_1949 (by decide) (fun _ => ?_) (fun c9 => absurd hth c9)
  refine lv_iload hx hb dL_law_1954 (lv_at hl 1 rfl) ?_
  refine lv_if_ne (tgt := 1971) hx hb dL_law_1956 (by decide) (fun c9 => ?_) (fun c9 => ?_)
  · refine lv_goto (tgt := 3247) hx hb dL_law_1971 (by decide) ?_
    refine W.widen (k := cells + 3) (n := slots + 18) (by omega) (by omega) ?_
    exact kk _ _ _ _ _ hI9 _ _ hP hD hS _ (lv_sub hl [2, 3, 4, 5, 6, 7] rfl)
  · have hk : k = 0 := Classical.byContradiction fun hk => lawC_nz hk (by decide) c9
    subst hk
    have hvv := hv rfl
    subst hvv
    refine lv_aload_n hx hb dL_law_1959 rfl (lv_at hl 4 rfl) ?_
    refine lv_iconst (v := 0) hx hb dL_law_1960 (by decide) ?_
    refine va_lald hx hb hK hP 8 2 rfl rfl (x_lit (n := 1) (k := 0) (by decide)).1 dL_law_1961 ?_
    rw [fU_0]
    refine lv_iload hx hb dL_law_1962 (lv_at hl 0 rfl) ?_
    refine lv_i2l (v := v.toInt64) hx hb dL_law_1964 rfl ?_
    refine W.lcmp hx hb dL_law_1965 ?_
    rw [lg_self]
    refine lv_if_eq (tgt := 1971) hx hb dL_law_1966 (by decide) (fun _ => ?_) (fun c9 => absurd rfl c9)
    refine lv_goto (tgt := 3247) hx hb dL_law_1971 (by decide) ?_
    refine W.widen (k := cells + 3) (n := slots + 18) (by omega) (by omega) ?_
    exact kk _ _ _ _ _ hI9 _ _ hP hD hS _ (lv_sub hl [2, 3, 4, 5, 6, 7] rfl)
set_option maxRecDepth 100000 in
set_option maxHeartbeats 4000000 in
theorem v_timesLeft (C : LC p l R s m args c D cA ad A b L xs) (hN : 2000 ≤ N) (hi : i + 6 ≤ L) (hI : IV n s0 s1 sm) (hn : n + 1 ≤ 512) (hcl : cells + 3 ≤ 603072) (hsl : slots + 18 ≤ 7198826) (hP : va_P D vwCl (LW cA ad hm hr h0 o od f g sm s0 s1) H) (hD : va_D A (LW cA ad hm hr h0 o od f g sm s0 s1)) (hS : va_S A s.heap H locs) (hl : lv_has ls 9 [(5, .int (iI (i : Int))), (4, .ref od), (3, .ref o), (2, .ref (hm 0)), (1, .ref (h0 0)), (0, .ref b)])
    (kk : LK p l e R s m args below meth c cells slots Q D cA ad A b hm hr h0 o od i n) : W p l e R s m args below meth c H locs cells slots Q (F0 m 1974 ls []) := by
  obtain ⟨⟨hx, hb, hml, hown, hts⟩, hl9, eR, hN9, hE, hV, hX, hK, hA, hXs, hbl, hbA, hL9⟩ := C
  have hst := st_timesLeft (t := s0) (r := s1) (s := sm) hN hI hn (xs (i + 1))
  obtain ⟨k, v, v9, sm9, hc9, hm9, hth, hq, hv, hI9⟩ := hst
  refine lv_aload_n hx hb dL_law_1974 rfl (lv_at hl 4 rfl) ?_
  refine lv_aload_n hx hb dL_law_1975 rfl (lv_at hl 5 rfl) ?_
  refine lv_iload hx hb dL_law_1976 (lv_at hl 0 rfl) ?_
  refine lv_iconst (v := 1) hx hb dL_law_1978 (by decide) ?_
  refine lv_iadd hx hb dL_law_1979 ?_
  refine vSld hx hb hXs hbl hbA hS (k := i + 1) (sIx1 hi hL9) dL_law_1980 ?_
  refine lv_aload_n hx hb dL_law_1981 rfl (lv_at hl 2 rfl) ?_
  refine hCall (w2 := LW cA ad hm hr h0 o od (fU k f v.toInt64) g sm s0 s1) (hRunS (n := 3) (As := [.ref (h0 0), .int (xs (i + 1)), .ref o]) (rest := []) ⟨hx, hb, hml, hown, hts⟩ (h_timesLeft l hl9 D cA ad hr h0 o od _ N ((xs (i + 1))) f g s0 s1 k v hc9 hq) qcw_L_timesLeft qml_L_299 qst_L_timesLeft qini_L (by decide +kernel) (by rw [eR]; rfl) hN9 hE hV hX hS hA hK hP hD (mid 8 288) (LW_hC _ _ _ _ _ _ _ _ _ _ _ _) (mid_nd _ _) rfl rfl hl.1 rfl (lv_room (Nat.le_of_ble_eq_true rfl)) dL_law_1982 ⟨by rw [eR]; show cells + 1 ≤ 603072; omega, by rw [eR]; show slots + 6 ≤ 7198826; omega⟩) hP hD hS hA (mid 8 288) (LW_hC _ _ _ _ _ _ _ _ _ _ _ _) (HW_fst _ _ _ _ _ _ _ _ _ _ _ _ _ _) (LW_hH _ _ _ _ _ _ _ _ _ _ _ _ _ _ _ _) (fun H locs hP hD hS => ?_)
  refine lv_istore (lv' := [(6, .int (iI (lawC [1] k : Int))), (5, .int (iI (i : Int))), (4, .ref od), (3, .ref o), (2, .ref (hm 0)), (1, .ref (h0 0)), (0, .ref b)]) hx hb dL_law_1985 hl (by decide) rfl (fun ls hl => ?_)
  refine lv_aload_n hx hb dL_law_1987 rfl (lv_at hl 4 rfl) ?_
  refine lv_aload_n hx hb dL_law_1988 rfl (lv_at hl 6 rfl) ?_
  refine lv_iload hx hb dL_law_1989 (lv_at hl 1 rfl) ?_
  refine lv_iconst (v := 1) hx hb dL_law_1991 (by decide) ?_
  refine lv_iadd hx hb dL_law_1992 ?_
  refine vSld hx hb hXs hbl hbA hS (k := i + 1) (sIx1 hi hL9) dL_law_1993 ?_
  refine xCallH (w2 := LW cA ad hm hr h0 o od (fU k f v.toInt64) g sm9 s0 s1) (xRunV (n := 1) (As := [.int (xs (i + 1))]) (rest := []) ⟨hx, hb, hml, hown, hts⟩ (kX13_timesLeft l D cA hm _ N ((xs (i + 1))) sm (v9, sm9) hm9) qco_X13_timesLeft qml_L_301 qin_X13_timesLeft qse_X13_timesLeft qini_X13 (by decide +kernel) (by rw [eR]; rfl) hK hP hD (mid 0 8) (LW_mC _ _ _ _ _ _ _ _ _ _ _ _) (mid_nd _ _) (q0 := 0) rfl rfl rfl rfl rfl hl.1 rfl (lv_room (Nat.le_of_ble_eq_true rfl)) dL_law_1994 ⟨by rw [eR]; show cells + 1 ≤ 603072; omega, by rw [eR]; show slots + 6 ≤ 7198826; omega⟩) hP hD hS hA (mid 0 8) (LW_mC _ _ _ _ _ _ _ _ _ _ _ _) rfl (LW_mH _ _ _ _ _ _ _ _ _ _ _ _ _) (fun H locs hP hD hS => ?_)
  refine lv_istore (lv' := [(7, .int v9), (6, .int (iI (lawC [1] k : Int))), (5, .int (iI (i : Int))), (4, .ref od), (3, .ref o), (2, .ref (hm 0)), (1, .ref (h0 0)), (0, .ref b)]) hx hb dL_law_1997 hl (by decide) rfl (fun ls hl => ?_)
  refine lv_aload_n hx hb dL_law_1999 rfl (lv_at hl 5 rfl) ?_
  refine xCallH (w2 := LW cA ad hm hr h0 o od (fU k f v.toInt64) g sm9 s0 s1) (xRunV (n := 0) (As := []) (rest := []) ⟨hx, hb, hml, hown, hts⟩ (kX13_thrown l D cA hm _ N sm9 _ rfl) qco_X13_thrown qml_L_184 qin_X13_thrown qse_X13_thrown qini_X13 (by decide +kernel) (by rw [eR]; rfl) hK hP hD (mid 0 8) (LW_mC _ _ _ _ _ _ _ _ _ _ _ _) (mid_nd _ _) (q0 := 0) rfl rfl rfl rfl rfl hl.1 rfl (lv_room (Nat.le_of_ble_eq_true rfl)) dL_law_2000 ⟨by rw [eR]; show cells + 1 ≤ 603072; omega, by rw [eR]; show slots + 6 ≤ 7198826; omega⟩) hP hD hS hA (mid 0 8) (LW_mC _ _ _ _ _ _ _ _ _ _ _ _) rfl (LW_mH _ _ _ _ _ _ _ _ _ _ _ _ _) (fun H locs hP hD hS => ?_)
  refine lv_iload hx hb dL_law_2003 (lv_at hl 1 rfl) ?_
  refine lv_icmp_eq (tgt := 2010) hx hb dL_law_2005 (by decide) (fun _ => ?_) (fun c9 => absurd hth c9)
  refine lv_iload hx hb dL_law_2010 (lv_at hl 1 rfl) ?_
  refine lv_if_ne (tgt := 2027) hx hb dL_law_2012 (by decide) (fun c9 => ?_) (fun c9 => ?_)
  · refine lv_goto (tgt := 3247) hx hb dL_law_2027 (by decide) ?_
    refine W.widen (k := cells + 3) (n := slots + 18) (by omega) (by omega) ?_
    exact kk _ _ _ _ _ hI9 _ _ hP hD hS _ (lv_sub hl [2, 3, 4, 5, 6, 7] rfl)
  · have hk : k = 0 := Classical.byContradiction fun hk => lawC_nz hk (by decide) c9
    subst hk
    have hvv := hv rfl
    subst hvv
    refine lv_aload_n hx hb dL_law_2015 rfl (lv_at hl 4 rfl) ?_
    refine lv_iconst (v := 0) hx hb dL_law_2016 (by decide) ?_
    refine va_lald hx hb hK hP 8 2 rfl rfl (x_lit (n := 1) (k := 0) (by decide)).1 dL_law_2017 ?_
    rw [fU_0]
    refine lv_iload hx hb dL_law_2018 (lv_at hl 0 rfl) ?_
    refine lv_i2l (v := v.toInt64) hx hb dL_law_2020 rfl ?_
    refine W.lcmp hx hb dL_law_2021 ?_
    rw [lg_self]
    refine lv_if_eq (tgt := 2027) hx hb dL_law_2022 (by decide) (fun _ => ?_) (fun c9 => absurd rfl c9)
    refine lv_goto (tgt := 3247) hx hb dL_law_2027 (by decide) ?_
    refine W.widen (k := cells + 3) (n := slots + 18) (by omega) (by omega) ?_
    exact kk _ _ _ _ _ hI9 _ _ hP hD hS _ (lv_sub hl [2, 3, 4, 5, 6, 7] rfl)
set_option maxRecDepth 100000 in
set_option maxHeartbeats 4000000 in
theorem v_cashIn (C : LC p l R s m args c D cA ad A b L xs) (hN : 2000 ≤ N) (hi : i + 6 ≤ L) (hI : IV n s0 s1 sm) (hn : n + 1 ≤ 512) (hcl : cells + 3 ≤ 603072) (hsl : slots + 18 ≤ 7198826) (hP : va_P D vwCl (LW cA ad hm hr h0 o od f g sm s0 s1) H) (hD : va_D A (LW cA ad hm hr h0 o od f g sm s0 s1)) (hS : va_S A s.heap H locs) (hl : lv_has ls 9 [(5, .int (iI (i : Int))), (4, .ref od), (3, .ref o), (2, .ref (hm 0)), (1, .ref (h0 0)), (0, .ref b)])
    (kk : LK p l e R s m args below meth c cells slots Q D cA ad A b hm hr h0 o od i n) : W p l e R s m args below meth c H locs cells slots Q (F0 m 2030 ls []) := by
  obtain ⟨⟨hx, hb, hml, hown, hts⟩, hl9, eR, hN9, hE, hV, hX, hK, hA, hXs, hbl, hbA, hL9⟩ := C
  have hst := st_cashIn (t := s0) (r := s1) (s := sm) hN hI hn (xs (i + 1))
  obtain ⟨k, v, v9, sm9, hc9, hm9, hth, hq, hv, hI9⟩ := hst
  refine lv_aload_n hx hb dL_law_2030 rfl (lv_at hl 4 rfl) ?_
  refine lv_aload_n hx hb dL_law_2031 rfl (lv_at hl 5 rfl) ?_
  refine lv_iload hx hb dL_law_2032 (lv_at hl 0 rfl) ?_
  refine lv_iconst (v := 1) hx hb dL_law_2034 (by decide) ?_
  refine lv_iadd hx hb dL_law_2035 ?_
  refine vSld hx hb hXs hbl hbA hS (k := i + 1) (sIx1 hi hL9) dL_law_2036 ?_
  refine lv_aload_n hx hb dL_law_2037 rfl (lv_at hl 2 rfl) ?_
  refine hCall (w2 := LW cA ad hm hr h0 o od (fU k f v) g sm s0 s1) (hRunS (n := 3) (As := [.ref (h0 0), .int (xs (i + 1)), .ref o]) (rest := []) ⟨hx, hb, hml, hown, hts⟩ (h_cashIn l hl9 D cA ad hr h0 o od _ N ((xs (i + 1))) f g s0 s1 k v hc9 hq) qcw_L_cashIn qml_L_302 qst_L_cashIn qini_L (by decide +kernel) (by rw [eR]; rfl) hN9 hE hV hX hS hA hK hP hD (mid 8 288) (LW_hC _ _ _ _ _ _ _ _ _ _ _ _) (mid_nd _ _) rfl rfl hl.1 rfl (lv_room (Nat.le_of_ble_eq_true rfl)) dL_law_2038 ⟨by rw [eR]; show cells + 1 ≤ 603072; omega, by rw [eR]; show slots + 6 ≤ 7198826; omega⟩) hP hD hS hA (mid 8 288) (LW_hC _ _ _ _ _ _ _ _ _ _ _ _) (HW_fst _ _ _ _ _ _ _ _ _ _ _ _ _ _) (LW_hH _ _ _ _ _ _ _ _ _ _ _ _ _ _ _ _) (fun H locs hP hD hS => ?_)
  refine lv_istore (lv' := [(6, .int (iI (lawC [3] k : Int))), (5, .int (iI (i : Int))), (4, .ref od), (3, .ref o), (2, .ref (hm 0)), (1, .ref (h0 0)), (0, .ref b)]) hx hb dL_law_2041 hl (by decide) rfl (fun ls hl => ?_)
  refine lv_aload_n hx hb dL_law_2043 rfl (lv_at hl 4 rfl) ?_
  refine lv_aload_n hx hb dL_law_2044 rfl (lv_at hl 6 rfl) ?_
  refine lv_iload hx hb dL_law_2045 (lv_at hl 1 rfl) ?_
  refine lv_iconst (v := 1) hx hb dL_law_2047 (by decide) ?_
  refine lv_iadd hx hb dL_law_2048 ?_
  refine vSld hx hb hXs hbl hbA hS (k := i + 1) (sIx1 hi hL9) dL_law_2049 ?_
  refine xCallH (w2 := LW cA ad hm hr h0 o od (fU k f v) g sm9 s0 s1) (xRunV (n := 1) (As := [.int (xs (i + 1))]) (rest := []) ⟨hx, hb, hml, hown, hts⟩ (kX13_cashIn l D cA hm _ N ((xs (i + 1))) sm (v9, sm9) hm9) qco_X13_cashIn qml_L_304 qin_X13_cashIn qse_X13_cashIn qini_X13 (by decide +kernel) (by rw [eR]; rfl) hK hP hD (mid 0 8) (LW_mC _ _ _ _ _ _ _ _ _ _ _ _) (mid_nd _ _) (q0 := 0) rfl rfl rfl rfl rfl hl.1 rfl (lv_room (Nat.le_of_ble_eq_true rfl)) dL_law_2050 ⟨by rw [eR]; show cells + 1 ≤ 603072; omega, by rw [eR]; show slots + 6 ≤ 7198826; omega⟩) hP hD hS hA (mid 0 8) (LW_mC _ _ _ _ _ _ _ _ _ _ _ _) rfl (LW_mH _ _ _ _ _ _ _ _ _ _ _ _ _) (fun H locs hP hD hS => ?_)
  refine lv_lstore (lv' := [(7, .long v9), (6, .int (iI (lawC [3] k : Int))), (5, .int (iI (i : Int))), (4, .ref od), (3, .ref o), (2, .ref (hm 0)), (1, .ref (h0 0)), (0, .ref b)]) hx hb dL_law_2053 hl (by decide) rfl (fun ls hl => ?_)
  refine lv_aload_n hx hb dL_law_2055 rfl (lv_at hl 5 rfl) ?_
  refine xCallH (w2 := LW cA ad hm hr h0 o od (fU k f v) g sm9 s0 s1) (xRunV (n := 0) (As := []) (rest := []) ⟨hx, hb, hml, hown, hts⟩ (kX13_thrown l D cA hm _ N sm9 _ rfl) qco_X13_thrown qml_L_184 qin_X13_thrown qse_X13_thrown qini_X13 (by decide +kernel) (by rw [eR]; rfl) hK hP hD (mid 0 8) (LW_mC _ _ _ _ _ _ _ _ _ _ _ _) (mid_nd _ _) (q0 := 0) rfl rfl rfl rfl rfl hl.1 rfl (lv_room (Nat.le_of_ble_eq_true rfl)) dL_law_2056 ⟨by rw [eR]; show cells + 1 ≤ 603072; omega, by rw [eR]; show slots + 6 ≤ 7198826; omega⟩) hP hD hS hA (mid 0 8) (LW_mC _ _ _ _ _ _ _ _ _ _ _ _) rfl (LW_mH _ _ _ _ _ _ _ _ _ _ _ _ _) (fun H locs hP hD hS => ?_)
  refine lv_iload hx hb dL_law_2059 (lv_at hl 1 rfl) ?_
  refine lv_icmp_eq (tgt := 2066) hx hb dL_law_2061 (by decide) (fun _ => ?_) (fun c9 => absurd hth c9)
  refine lv_iload hx hb dL_law_2066 (lv_at hl 1 rfl) ?_
  refine lv_if_ne (tgt := 2082) hx hb dL_law_2068 (by decide) (fun c9 => ?_) (fun c9 => ?_)
  · refine lv_goto (tgt := 3247) hx hb dL_law_2082 (by decide) ?_
    refine W.widen (k := cells + 3) (n := slots + 18) (by omega) (by omega) ?_
    exact kk _ _ _ _ _ hI9 _ _ hP hD hS _ (lv_sub hl [2, 3, 4, 5, 6, 7] rfl)
  · have hk : k = 0 := Classical.byContradiction fun hk => lawC_nz hk (by decide) c9
    subst hk
    have hvv := hv rfl
    subst hvv
    refine lv_aload_n hx hb dL_law_2071 rfl (lv_at hl 4 rfl) ?_
    refine lv_iconst (v := 0) hx hb dL_law_2072 (by decide) ?_
    refine va_lald hx hb hK hP 8 2 rfl rfl (x_lit (n := 1) (k := 0) (by decide)).1 dL_law_2073 ?_
    rw [fU_0]
    refine lv_lload hx hb dL_law_2074 (lv_at hl 0 rfl) ?_
    refine W.lcmp hx hb dL_law_2076 ?_
    rw [lg_self]
    refine lv_if_eq (tgt := 2082) hx hb dL_law_2077 (by decide) (fun _ => ?_) (fun c9 => absurd rfl c9)
    refine lv_goto (tgt := 3247) hx hb dL_law_2082 (by decide) ?_
    refine W.widen (k := cells + 3) (n := slots + 18) (by omega) (by omega) ?_
    exact kk _ _ _ _ _ hI9 _ _ hP hD hS _ (lv_sub hl [2, 3, 4, 5, 6, 7] rfl)
set_option maxRecDepth 100000 in
set_option maxHeartbeats 4000000 in
theorem v_costumeCount (C : LC p l R s m args c D cA ad A b L xs) (hN : 2000 ≤ N) (hi : i + 6 ≤ L) (hI : IV n s0 s1 sm) (hn : n + 1 ≤ 512) (hcl : cells + 3 ≤ 603072) (hsl : slots + 18 ≤ 7198826) (hP : va_P D vwCl (LW cA ad hm hr h0 o od f g sm s0 s1) H) (hD : va_D A (LW cA ad hm hr h0 o od f g sm s0 s1)) (hS : va_S A s.heap H locs) (hl : lv_has ls 9 [(5, .int (iI (i : Int))), (4, .ref od), (3, .ref o), (2, .ref (hm 0)), (1, .ref (h0 0)), (0, .ref b)])
    (kk : LK p l e R s m args below meth c cells slots Q D cA ad A b hm hr h0 o od i n) : W p l e R s m args below meth c H locs cells slots Q (F0 m 2085 ls []) := by
  obtain ⟨⟨hx, hb, hml, hown, hts⟩, hl9, eR, hN9, hE, hV, hX, hK, hA, hXs, hbl, hbA, hL9⟩ := C
  have hst := st_costumeCount (t := s0) (r := s1) (s := sm) hN hI hn
  obtain ⟨v, sm9, hc9, hm9, hI9⟩ := hst
  refine lv_aload_n hx hb dL_law_2085 rfl (lv_at hl 4 rfl) ?_
  refine xCallH (w2 := LW cA ad hm hr h0 o od f g sm s0 s1) (zRunV (n := 0) (As := []) (rest := []) ⟨hx, hb, hml, hown, hts⟩ (kX12_costumeCount l D cA ad hr h0 _ N s0 v hc9) qco_X12_costumeCount qml_L_305 qin_X12_costumeCount qse_X12_costumeCount qini_X12 (by decide +kernel) (by rw [eR]; rfl) hN9 hE hS hA hK hP hD (mid 10 61) (LW_tC _ _ _ _ _ _ _ _ _ _ _ _) (mid_nd _ _) (q0 := 0) rfl rfl rfl rfl rfl hl.1 rfl (lv_room (Nat.le_of_ble_eq_true rfl)) dL_law_2086 ⟨by rw [eR]; show cells + 0 ≤ 603072; omega, by rw [eR]; show slots + 0 ≤ 7198826; omega⟩) hP hD hS hA (mid 10 61) (LW_tC _ _ _ _ _ _ _ _ _ _ _ _) rfl (LW_tH _ _ _ _ _ _ _ _ _ _ _ _ _) (fun H locs hP hD hS => ?_)
  refine lv_aload_n hx hb dL_law_2089 rfl (lv_at hl 3 rfl) ?_
  refine xCallH (w2 := LW cA ad hm hr h0 o od f g sm9 s0 s1) (xRunV (n := 0) (As := []) (rest := [.int v]) ⟨hx, hb, hml, hown, hts⟩ (kX13_costumeCount l D cA hm _ N sm (v, sm9) hm9) qco_X13_costumeCount qml_L_308 qin_X13_costumeCount qse_X13_costumeCount qini_X13 (by decide +kernel) (by rw [eR]; rfl) hK hP hD (mid 0 8) (LW_mC _ _ _ _ _ _ _ _ _ _ _ _) (mid_nd _ _) (q0 := 0) rfl rfl rfl rfl rfl hl.1 rfl (lv_room (Nat.le_of_ble_eq_true rfl)) dL_law_2090 ⟨by rw [eR]; show cells + 0 ≤ 603072; omega, by rw [eR]; show slots + 0 ≤ 7198826; omega⟩) hP hD hS hA (mid 0 8) (LW_mC _ _ _ _ _ _ _ _ _ _ _ _) rfl (LW_mH _ _ _ _ _ _ _ _ _ _ _ _ _) (fun H locs hP hD hS => ?_)
  refine lv_icmp_eq (tgt := 3247) hx hb dL_law_2093 (by decide) (fun _ => ?_) (fun c9 => absurd rfl c9)
  refine W.widen (k := cells + 3) (n := slots + 18) (by omega) (by omega) ?_
  exact kk _ _ _ _ _ hI9 _ _ hP hD hS _ (lv_sub hl [0, 1, 2, 3, 4, 5] rfl)
set_option maxRecDepth 100000 in
set_option maxHeartbeats 4000000 in
theorem v_lotCount (C : LC p l R s m args c D cA ad A b L xs) (hN : 2000 ≤ N) (hi : i + 6 ≤ L) (hI : IV n s0 s1 sm) (hn : n + 1 ≤ 512) (hcl : cells + 3 ≤ 603072) (hsl : slots + 18 ≤ 7198826) (hP : va_P D vwCl (LW cA ad hm hr h0 o od f g sm s0 s1) H) (hD : va_D A (LW cA ad hm hr h0 o od f g sm s0 s1)) (hS : va_S A s.heap H locs) (hl : lv_has ls 9 [(5, .int (iI (i : Int))), (4, .ref od), (3, .ref o), (2, .ref (hm 0)), (1, .ref (h0 0)), (0, .ref b)])
    (kk : LK p l e R s m args below meth c cells slots Q D cA ad A b hm hr h0 o od i n) : W p l e R s m args below meth c H locs cells slots Q (F0 m 2098 ls []) := by
  obtain ⟨⟨hx, hb, hml, hown, hts⟩, hl9, eR, hN9, hE, hV, hX, hK, hA, hXs, hbl, hbA, hL9⟩ := C
  have hst := st_lotCount (t := s0) (r := s1) (s := sm) hN hI hn
  obtain ⟨v, sm9, hc9, hm9, hI9⟩ := hst
  refine lv_aload_n hx hb dL_law_2098 rfl (lv_at hl 4 rfl) ?_
  refine xCallH (w2 := LW cA ad hm hr h0 o od f g sm s0 s1) (zRunV (n := 0) (As := []) (rest := []) ⟨hx, hb, hml, hown, hts⟩ (kX12_lotCount l D cA ad hr h0 _ N s0 v hc9) qco_X12_lotCount qml_L_309 qin_X12_lotCount qse_X12_lotCount qini_X12 (by decide +kernel) (by rw [eR]; rfl) hN9 hE hS hA hK hP hD (mid 10 61) (LW_tC _ _ _ _ _ _ _ _ _ _ _ _) (mid_nd _ _) (q0 := 0) rfl rfl rfl rfl rfl hl.1 rfl (lv_room (Nat.le_of_ble_eq_true rfl)) dL_law_2099 ⟨by rw [eR]; show cells + 0 ≤ 603072; omega, by rw [eR]; show slots + 0 ≤ 7198826; omega⟩) hP hD hS hA (mid 10 61) (LW_tC _ _ _ _ _ _ _ _ _ _ _ _) rfl (LW_tH _ _ _ _ _ _ _ _ _ _ _ _ _) (fun H locs hP hD hS => ?_)
  refine lv_aload_n hx hb dL_law_2102 rfl (lv_at hl 3 rfl) ?_
  refine xCallH (w2 := LW cA ad hm hr h0 o od f g sm9 s0 s1) (xRunV (n := 0) (As := []) (rest := [.int v]) ⟨hx, hb, hml, hown, hts⟩ (kX13_lotCount l D cA hm _ N sm (v, sm9) hm9) qco_X13_lotCount qml_L_312 qin_X13_lotCount qse_X13_lotCount qini_X13 (by decide +kernel) (by rw [eR]; rfl) hK hP hD (mid 0 8) (LW_mC _ _ _ _ _ _ _ _ _ _ _ _) (mid_nd _ _) (q0 := 0) rfl rfl rfl rfl rfl hl.1 rfl (lv_room (Nat.le_of_ble_eq_true rfl)) dL_law_2103 ⟨by rw [eR]; show cells + 0 ≤ 603072; omega, by rw [eR]; show slots + 0 ≤ 7198826; omega⟩) hP hD hS hA (mid 0 8) (LW_mC _ _ _ _ _ _ _ _ _ _ _ _) rfl (LW_mH _ _ _ _ _ _ _ _ _ _ _ _ _) (fun H locs hP hD hS => ?_)
  refine lv_icmp_eq (tgt := 3247) hx hb dL_law_2106 (by decide) (fun _ => ?_) (fun c9 => absurd rfl c9)
  refine W.widen (k := cells + 3) (n := slots + 18) (by omega) (by omega) ?_
  exact kk _ _ _ _ _ hI9 _ _ hP hD hS _ (lv_sub hl [0, 1, 2, 3, 4, 5] rfl)
set_option maxRecDepth 100000 in
set_option maxHeartbeats 4000000 in
theorem v_costOf (C : LC p l R s m args c D cA ad A b L xs) (hN : 2000 ≤ N) (hi : i + 6 ≤ L) (hI : IV n s0 s1 sm) (hn : n + 1 ≤ 512) (hcl : cells + 3 ≤ 603072) (hsl : slots + 18 ≤ 7198826) (hP : va_P D vwCl (LW cA ad hm hr h0 o od f g sm s0 s1) H) (hD : va_D A (LW cA ad hm hr h0 o od f g sm s0 s1)) (hS : va_S A s.heap H locs) (hl : lv_has ls 9 [(5, .int (iI (i : Int))), (4, .ref od), (3, .ref o), (2, .ref (hm 0)), (1, .ref (h0 0)), (0, .ref b)])
    (kk : LK p l e R s m args below meth c cells slots Q D cA ad A b hm hr h0 o od i n) : W p l e R s m args below meth c H locs cells slots Q (F0 m 2111 ls []) := by
  obtain ⟨⟨hx, hb, hml, hown, hts⟩, hl9, eR, hN9, hE, hV, hX, hK, hA, hXs, hbl, hbA, hL9⟩ := C
  have hst := st_costOf (t := s0) (r := s1) (s := sm) hN hI hn (xs (i + 1))
  obtain ⟨k, v, v9, sm9, hc9, hm9, hth, hq, hv, hI9⟩ := hst
  refine lv_aload_n hx hb dL_law_2111 rfl (lv_at hl 4 rfl) ?_
  refine lv_aload_n hx hb dL_law_2112 rfl (lv_at hl 5 rfl) ?_
  refine lv_iload hx hb dL_law_2113 (lv_at hl 0 rfl) ?_
  refine lv_iconst (v := 1) hx hb dL_law_2115 (by decide) ?_
  refine lv_iadd hx hb dL_law_2116 ?_
  refine vSld hx hb hXs hbl hbA hS (k := i + 1) (sIx1 hi hL9) dL_law_2117 ?_
  refine lv_aload_n hx hb dL_law_2118 rfl (lv_at hl 2 rfl) ?_
  refine hCall (w2 := LW cA ad hm hr h0 o od (fU k f v.toInt64) g sm s0 s1) (hRunS (n := 3) (As := [.ref (h0 0), .int (xs (i + 1)), .ref o]) (rest := []) ⟨hx, hb, hml, hown, hts⟩ (h_costOf l hl9 D cA ad hr h0 o od _ N ((xs (i + 1))) f g s0 s1 k v hc9 hq) qcw_L_costOf qml_L_313 qst_L_costOf qini_L (by decide +kernel) (by rw [eR]; rfl) hN9 hE hV hX hS hA hK hP hD (mid 8 288) (LW_hC _ _ _ _ _ _ _ _ _ _ _ _) (mid_nd _ _) rfl rfl hl.1 rfl (lv_room (Nat.le_of_ble_eq_true rfl)) dL_law_2119 ⟨by rw [eR]; show cells + 1 ≤ 603072; omega, by rw [eR]; show slots + 6 ≤ 7198826; omega⟩) hP hD hS hA (mid 8 288) (LW_hC _ _ _ _ _ _ _ _ _ _ _ _) (HW_fst _ _ _ _ _ _ _ _ _ _ _ _ _ _) (LW_hH _ _ _ _ _ _ _ _ _ _ _ _ _ _ _ _) (fun H locs hP hD hS => ?_)
  refine lv_istore (lv' := [(6, .int (iI (lawC [3, 4] k : Int))), (5, .int (iI (i : Int))), (4, .ref od), (3, .ref o), (2, .ref (hm 0)), (1, .ref (h0 0)), (0, .ref b)]) hx hb dL_law_2122 hl (by decide) rfl (fun ls hl => ?_)
  refine lv_aload_n hx hb dL_law_2124 rfl (lv_at hl 4 rfl) ?_
  refine lv_aload_n hx hb dL_law_2125 rfl (lv_at hl 6 rfl) ?_
  refine lv_iload hx hb dL_law_2126 (lv_at hl 1 rfl) ?_
  refine lv_iconst (v := 1) hx hb dL_law_2128 (by decide) ?_
  refine lv_iadd hx hb dL_law_2129 ?_
  refine vSld hx hb hXs hbl hbA hS (k := i + 1) (sIx1 hi hL9) dL_law_2130 ?_
  refine xCallH (w2 := LW cA ad hm hr h0 o od (fU k f v.toInt64) g sm9 s0 s1) (xRunV (n := 1) (As := [.int (xs (i + 1))]) (rest := []) ⟨hx, hb, hml, hown, hts⟩ (kX13_costOf l D cA hm _ N ((xs (i + 1))) sm (v9, sm9) hm9) qco_X13_costOf qml_L_315 qin_X13_costOf qse_X13_costOf qini_X13 (by decide +kernel) (by rw [eR]; rfl) hK hP hD (mid 0 8) (LW_mC _ _ _ _ _ _ _ _ _ _ _ _) (mid_nd _ _) (q0 := 0) rfl rfl rfl rfl rfl hl.1 rfl (lv_room (Nat.le_of_ble_eq_true rfl)) dL_law_2131 ⟨by rw [eR]; show cells + 1 ≤ 603072; omega, by rw [eR]; show slots + 6 ≤ 7198826; omega⟩) hP hD hS hA (mid 0 8) (LW_mC _ _ _ _ _ _ _ _ _ _ _ _) rfl (LW_mH _ _ _ _ _ _ _ _ _ _ _ _ _) (fun H locs hP hD hS => ?_)
  refine lv_istore (lv' := [(7, .int v9), (6, .int (iI (lawC [3, 4] k : Int))), (5, .int (iI (i : Int))), (4, .ref od), (3, .ref o), (2, .ref (hm 0)), (1, .ref (h0 0)), (0, .ref b)]) hx hb dL_law_2134 hl (by decide) rfl (fun ls hl => ?_)
  refine lv_aload_n hx hb dL_law_2136 rfl (lv_at hl 5 rfl) ?_
  refine xCallH (w2 := LW cA ad hm hr h0 o od (fU k f v.toInt64) g sm9 s0 s1) (xRunV (n := 0) (As := []) (rest := []) ⟨hx, hb, hml, hown, hts⟩ (kX13_thrown l D cA hm _ N sm9 _ rfl) qco_X13_thrown qml_L_184 qin_X13_thrown qse_X13_thrown qini_X13 (by decide +kernel) (by rw [eR]; rfl) hK hP hD (mid 0 8) (LW_mC _ _ _ _ _ _ _ _ _ _ _ _) (mid_nd _ _) (q0 := 0) rfl rfl rfl rfl rfl hl.1 rfl (lv_room (Nat.le_of_ble_eq_true rfl)) dL_law_2137 ⟨by rw [eR]; show cells + 1 ≤ 603072; omega, by rw [eR]; show slots + 6 ≤ 7198826; omega⟩) hP hD hS hA (mid 0 8) (LW_mC _ _ _ _ _ _ _ _ _ _ _ _) rfl (LW_mH _ _ _ _ _ _ _ _ _ _ _ _ _) (fun H locs hP hD hS => ?_)
  refine lv_iload hx hb dL_law_2140 (lv_at hl 1 rfl) ?_
  refine lv_icmp_eq (tgt := 2147) hx hb dL_law_2142 (by decide) (fun _ => ?_) (fun c9 => absurd hth c9)
  refine lv_iload hx hb dL_law_2147 (lv_at hl 1 rfl) ?_
  refine lv_if_ne (tgt := 2164) hx hb dL_law_2149 (by decide) (fun c9 => ?_) (fun c9 => ?_)
  · refine lv_goto (tgt := 3247) hx hb dL_law_2164 (by decide) ?_
    refine W.widen (k := cells + 3) (n := slots + 18) (by omega) (by omega) ?_
    exact kk _ _ _ _ _ hI9 _ _ hP hD hS _ (lv_sub hl [2, 3, 4, 5, 6, 7] rfl)
  · have hk : k = 0 := Classical.byContradiction fun hk => lawC_nz hk (by decide) c9
    subst hk
    have hvv := hv rfl
    subst hvv
    refine lv_aload_n hx hb dL_law_2152 rfl (lv_at hl 4 rfl) ?_
    refine lv_iconst (v := 0) hx hb dL_law_2153 (by decide) ?_
    refine va_lald hx hb hK hP 8 2 rfl rfl (x_lit (n := 1) (k := 0) (by decide)).1 dL_law_2154 ?_
    rw [fU_0]
    refine lv_iload hx hb dL_law_2155 (lv_at hl 0 rfl) ?_
    refine lv_i2l (v := v.toInt64) hx hb dL_law_2157 rfl ?_
    refine W.lcmp hx hb dL_law_2158 ?_
    rw [lg_self]
    refine lv_if_eq (tgt := 2164) hx hb dL_law_2159 (by decide) (fun _ => ?_) (fun c9 => absurd rfl c9)
    refine lv_goto (tgt := 3247) hx hb dL_law_2164 (by decide) ?_
    refine W.widen (k := cells + 3) (n := slots + 18) (by omega) (by omega) ?_
    exact kk _ _ _ _ _ hI9 _ _ hP hD hS _ (lv_sub hl [2, 3, 4, 5, 6, 7] rfl)
set_option maxRecDepth 100000 in
set_option maxHeartbeats 4000000 in
theorem v_costByCostumes (C : LC p l R s m args c D cA ad A b L xs) (hN : 2000 ≤ N) (hi : i + 6 ≤ L) (hI : IV n s0 s1 sm) (hn : n + 1 ≤ 512) (hcl : cells + 3 ≤ 603072) (hsl : slots + 18 ≤ 7198826) (hP : va_P D vwCl (LW cA ad hm hr h0 o od f g sm s0 s1) H) (hD : va_D A (LW cA ad hm hr h0 o od f g sm s0 s1)) (hS : va_S A s.heap H locs) (hl : lv_has ls 9 [(5, .int (iI (i : Int))), (4, .ref od), (3, .ref o), (2, .ref (hm 0)), (1, .ref (h0 0)), (0, .ref b)])
    (kk : LK p l e R s m args below meth c cells slots Q D cA ad A b hm hr h0 o od i n) : W p l e R s m args below meth c H locs cells slots Q (F0 m 2167 ls []) := by
  obtain ⟨⟨hx, hb, hml, hown, hts⟩, hl9, eR, hN9, hE, hV, hX, hK, hA, hXs, hbl, hbA, hL9⟩ := C
  have hst := st_costByCostumes (t := s0) (r := s1) (s := sm) hN hI hn (xs (i + 1))
  obtain ⟨k, v, v9, sm9, hc9, hm9, hth, hq, hv, hI9⟩ := hst
  refine lv_aload_n hx hb dL_law_2167 rfl (lv_at hl 4 rfl) ?_
  refine lv_aload_n hx hb dL_law_2168 rfl (lv_at hl 5 rfl) ?_
  refine lv_iload hx hb dL_law_2169 (lv_at hl 0 rfl) ?_
  refine lv_iconst (v := 1) hx hb dL_law_2171 (by decide) ?_
  refine lv_iadd hx hb dL_law_2172 ?_
  refine vSld hx hb hXs hbl hbA hS (k := i + 1) (sIx1 hi hL9) dL_law_2173 ?_
  refine lv_aload_n hx hb dL_law_2174 rfl (lv_at hl 2 rfl) ?_
  refine hCall (w2 := LW cA ad hm hr h0 o od (fU k f v.toInt64) g sm s0 s1) (hRunS (n := 3) (As := [.ref (h0 0), .int (xs (i + 1)), .ref o]) (rest := []) ⟨hx, hb, hml, hown, hts⟩ (h_costByCostumes l hl9 D cA ad hr h0 o od _ N ((xs (i + 1))) f g s0 s1 k v hc9 hq) qcw_L_costByCostumes qml_L_316 qst_L_costByCostumes qini_L (by decide +kernel) (by rw [eR]; rfl) hN9 hE hV hX hS hA hK hP hD (mid 8 288) (LW_hC _ _ _ _ _ _ _ _ _ _ _ _) (mid_nd _ _) rfl rfl hl.1 rfl (lv_room (Nat.le_of_ble_eq_true rfl)) dL_law_2175 ⟨by rw [eR]; show cells + 1 ≤ 603072; omega, by rw [eR]; show slots + 6 ≤ 7198826; omega⟩) hP hD hS hA (mid 8 288) (LW_hC _ _ _ _ _ _ _ _ _ _ _ _) (HW_fst _ _ _ _ _ _ _ _ _ _ _ _ _ _) (LW_hH _ _ _ _ _ _ _ _ _ _ _ _ _ _ _ _) (fun H locs hP hD hS => ?_)
  refine lv_istore (lv' := [(6, .int (iI (lawC [3, 4] k : Int))), (5, .int (iI (i : Int))), (4, .ref od), (3, .ref o), (2, .ref (hm 0)), (1, .ref (h0 0)), (0, .ref b)]) hx hb dL_law_2178 hl (by decide) rfl (fun ls hl => ?_)
  refine lv_aload_n hx hb dL_law_2180 rfl (lv_at hl 4 rfl) ?_
  refine lv_aload_n hx hb dL_law_2181 rfl (lv_at hl 6 rfl) ?_
  refine lv_iload hx hb dL_law_2182 (lv_at hl 1 rfl) ?_
  refine lv_iconst (v := 1) hx hb dL_law_2184 (by decide) ?_
  refine lv_iadd hx hb dL_law_2185 ?_
  refine vSld hx hb hXs hbl hbA hS (k := i + 1) (sIx1 hi hL9) dL_law_2186 ?_
  refine xCallH (w2 := LW cA ad hm hr h0 o od (fU k f v.toInt64) g sm9 s0 s1) (xRunV (n := 1) (As := [.int (xs (i + 1))]) (rest := []) ⟨hx, hb, hml, hown, hts⟩ (kX13_costByCostumes l D cA hm _ N ((xs (i + 1))) sm (v9, sm9) hm9) qco_X13_costByCostumes qml_L_318 qin_X13_costByCostumes qse_X13_costByCostumes qini_X13 (by decide +kernel) (by rw [eR]; rfl) hK hP hD (mid 0 8) (LW_mC _ _ _ _ _ _ _ _ _ _ _ _) (mid_nd _ _) (q0 := 0) rfl rfl rfl rfl rfl hl.1 rfl (lv_room (Nat.le_of_ble_eq_true rfl)) dL_law_2187 ⟨by rw [eR]; show cells + 1 ≤ 603072; omega, by rw [eR]; show slots + 6 ≤ 7198826; omega⟩) hP hD hS hA (mid 0 8) (LW_mC _ _ _ _ _ _ _ _ _ _ _ _) rfl (LW_mH _ _ _ _ _ _ _ _ _ _ _ _ _) (fun H locs hP hD hS => ?_)
  refine lv_istore (lv' := [(7, .int v9), (6, .int (iI (lawC [3, 4] k : Int))), (5, .int (iI (i : Int))), (4, .ref od), (3, .ref o), (2, .ref (hm 0)), (1, .ref (h0 0)), (0, .ref b)]) hx hb dL_law_2190 hl (by decide) rfl (fun ls hl => ?_)
  refine lv_aload_n hx hb dL_law_2192 rfl (lv_at hl 5 rfl) ?_
  refine xCallH (w2 := LW cA ad hm hr h0 o od (fU k f v.toInt64) g sm9 s0 s1) (xRunV (n := 0) (As := []) (rest := []) ⟨hx, hb, hml, hown, hts⟩ (kX13_thrown l D cA hm _ N sm9 _ rfl) qco_X13_thrown qml_L_184 qin_X13_thrown qse_X13_thrown qini_X13 (by decide +kernel) (by rw [eR]; rfl) hK hP hD (mid 0 8) (LW_mC _ _ _ _ _ _ _ _ _ _ _ _) (mid_nd _ _) (q0 := 0) rfl rfl rfl rfl rfl hl.1 rfl (lv_room (Nat.le_of_ble_eq_true rfl)) dL_law_2193 ⟨by rw [eR]; show cells + 1 ≤ 603072; omega, by rw [eR]; show slots + 6 ≤ 7198826; omega⟩) hP hD hS hA (mid 0 8) (LW_mC _ _ _ _ _ _ _ _ _ _ _ _) rfl (LW_mH _ _ _ _ _ _ _ _ _ _ _ _ _) (fun H locs hP hD hS => ?_)
  refine lv_iload hx hb dL_law_2196 (lv_at hl 1 rfl) ?_
  refine lv_icmp_eq (tgt := 2203) hx hb dL_law_2198 (by decide) (fun _ => ?_) (fun c9 => absurd hth c9)
  refine lv_iload hx hb dL_law_2203 (lv_at hl 1 rfl) ?_
  refine lv_if_ne (tgt := 2220) hx hb dL_law_2205 (by decide) (fun c9 => ?_) (fun c9 => ?_)
  · refine lv_goto (tgt := 3247) hx hb dL_law_2220 (by decide) ?_
    refine W.widen (k := cells + 3) (n := slots + 18) (by omega) (by omega) ?_
    exact kk _ _ _ _ _ hI9 _ _ hP hD hS _ (lv_sub hl [2, 3, 4, 5, 6, 7] rfl)
  · have hk : k = 0 := Classical.byContradiction fun hk => lawC_nz hk (by decide) c9
    subst hk
    have hvv := hv rfl
    subst hvv
    refine lv_aload_n hx hb dL_law_2208 rfl (lv_at hl 4 rfl) ?_
    refine lv_iconst (v := 0) hx hb dL_law_2209 (by decide) ?_
    refine va_lald hx hb hK hP 8 2 rfl rfl (x_lit (n := 1) (k := 0) (by decide)).1 dL_law_2210 ?_
    rw [fU_0]
    refine lv_iload hx hb dL_law_2211 (lv_at hl 0 rfl) ?_
    refine lv_i2l (v := v.toInt64) hx hb dL_law_2213 rfl ?_
    refine W.lcmp hx hb dL_law_2214 ?_
    rw [lg_self]
    refine lv_if_eq (tgt := 2220) hx hb dL_law_2215 (by decide) (fun _ => ?_) (fun c9 => absurd rfl c9)
    refine lv_goto (tgt := 3247) hx hb dL_law_2220 (by decide) ?_
    refine W.widen (k := cells + 3) (n := slots + 18) (by omega) (by omega) ?_
    exact kk _ _ _ _ _ hI9 _ _ hP hD hS _ (lv_sub hl [2, 3, 4, 5, 6, 7] rfl)
set_option maxRecDepth 100000 in
set_option maxHeartbeats 4000000 in
theorem v_billCount (C : LC p l R s m args c D cA ad A b L xs) (hN : 2000 ≤ N) (hi : i + 6 ≤ L) (hI : IV n s0 s1 sm) (hn : n + 1 ≤ 512) (hcl : cells + 3 ≤ 603072) (hsl : slots + 18 ≤ 7198826) (hP : va_P D vwCl (LW cA ad hm hr h0 o od f g sm s0 s1) H) (hD : va_D A (LW cA ad hm hr h0 o od f g sm s0 s1)) (hS : va_S A s.heap H locs) (hl : lv_has ls 9 [(5, .int (iI (i : Int))), (4, .ref od), (3, .ref o), (2, .ref (hm 0)), (1, .ref (h0 0)), (0, .ref b)])
    (kk : LK p l e R s m args below meth c cells slots Q D cA ad A b hm hr h0 o od i n) : W p l e R s m args below meth c H locs cells slots Q (F0 m 2288 ls []) := by
  obtain ⟨⟨hx, hb, hml, hown, hts⟩, hl9, eR, hN9, hE, hV, hX, hK, hA, hXs, hbl, hbA, hL9⟩ := C
  have hst := st_billCount (t := s0) (r := s1) (s := sm) hN hI hn
  obtain ⟨v, sm9, hc9, hm9, hI9⟩ := hst
  refine lv_aload_n hx hb dL_law_2288 rfl (lv_at hl 4 rfl) ?_
  refine xCallH (w2 := LW cA ad hm hr h0 o od f g sm s0 s1) (zRunV (n := 0) (As := []) (rest := []) ⟨hx, hb, hml, hown, hts⟩ (kX12_billCount l D cA ad hr h0 _ N s0 v hc9) qco_X12_billCount qml_L_323 qin_X12_billCount qse_X12_billCount qini_X12 (by decide +kernel) (by rw [eR]; rfl) hN9 hE hS hA hK hP hD (mid 10 61) (LW_tC _ _ _ _ _ _ _ _ _ _ _ _) (mid_nd _ _) (q0 := 0) rfl rfl rfl rfl rfl hl.1 rfl (lv_room (Nat.le_of_ble_eq_true rfl)) dL_law_2289 ⟨by rw [eR]; show cells + 0 ≤ 603072; omega, by rw [eR]; show slots + 0 ≤ 7198826; omega⟩) hP hD hS hA (mid 10 61) (LW_tC _ _ _ _ _ _ _ _ _ _ _ _) rfl (LW_tH _ _ _ _ _ _ _ _ _ _ _ _ _) (fun H locs hP hD hS => ?_)
  refine lv_aload_n hx hb dL_law_2292 rfl (lv_at hl 3 rfl) ?_
  refine xCallH (w2 := LW cA ad hm hr h0 o od f g sm9 s0 s1) (xRunV (n := 0) (As := []) (rest := [.int v]) ⟨hx, hb, hml, hown, hts⟩ (kX13_billCount l D cA hm _ N sm (v, sm9) hm9) qco_X13_billCount qml_L_326 qin_X13_billCount qse_X13_billCount qini_X13 (by decide +kernel) (by rw [eR]; rfl) hK hP hD (mid 0 8) (LW_mC _ _ _ _ _ _ _ _ _ _ _ _) (mid_nd _ _) (q0 := 0) rfl rfl rfl rfl rfl hl.1 rfl (lv_room (Nat.le_of_ble_eq_true rfl)) dL_law_2293 ⟨by rw [eR]; show cells + 0 ≤ 603072; omega, by rw [eR]; show slots + 0 ≤ 7198826; omega⟩) hP hD hS hA (mid 0 8) (LW_mC _ _ _ _ _ _ _ _ _ _ _ _) rfl (LW_mH _ _ _ _ _ _ _ _ _ _ _ _ _) (fun H locs hP hD hS => ?_)
  refine lv_icmp_eq (tgt := 3247) hx hb dL_law_2296 (by decide) (fun _ => ?_) (fun c9 => absurd rfl c9)
  refine W.widen (k := cells + 3) (n := slots + 18) (by omega) (by omega) ?_
  exact kk _ _ _ _ _ hI9 _ _ hP hD hS _ (lv_sub hl [0, 1, 2, 3, 4, 5] rfl)
set_option maxRecDepth 100000 in
set_option maxHeartbeats 4000000 in
theorem v_billAt (C : LC p l R s m args c D cA ad A b L xs) (hN : 2000 ≤ N) (hi : i + 6 ≤ L) (hI : IV n s0 s1 sm) (hn : n + 1 ≤ 512) (hcl : cells + 3 ≤ 603072) (hsl : slots + 18 ≤ 7198826) (hP : va_P D vwCl (LW cA ad hm hr h0 o od f g sm s0 s1) H) (hD : va_D A (LW cA ad hm hr h0 o od f g sm s0 s1)) (hS : va_S A s.heap H locs) (hl : lv_has ls 9 [(5, .int (iI (i : Int))), (4, .ref od), (3, .ref o), (2, .ref (hm 0)), (1, .ref (h0 0)), (0, .ref b)])
    (kk : LK p l e R s m args below meth c cells slots Q D cA ad A b hm hr h0 o od i n) : W p l e R s m args below meth c H locs cells slots Q (F0 m 2301 ls []) := by
  obtain ⟨⟨hx, hb, hml, hown, hts⟩, hl9, eR, hN9, hE, hV, hX, hK, hA, hXs, hbl, hbA, hL9⟩ := C
  have hst := st_billAt (t := s0) (r := s1) (s := sm) hN hI hn (xs (i + 1))
  obtain ⟨k, v, v9, sm9, hc9, hm9, hth, hq, hv, hI9⟩ := hst
  refine lv_aload_n hx hb dL_law_2301 rfl (lv_at hl 4 rfl) ?_
  refine lv_aload_n hx hb dL_law_2302 rfl (lv_at hl 5 rfl) ?_
  refine lv_iload hx hb dL_law_2303 (lv_at hl 0 rfl) ?_
  refine lv_iconst (v := 1) hx hb dL_law_2305 (by decide) ?_
  refine lv_iadd hx hb dL_law_2306 ?_
  refine vSld hx hb hXs hbl hbA hS (k := i + 1) (sIx1 hi hL9) dL_law_2307 ?_
  refine lv_aload_n hx hb dL_law_2308 rfl (lv_at hl 2 rfl) ?_
  refine hCall (w2 := LW cA ad hm hr h0 o od (fU k f v.toInt64) g sm s0 s1) (hRunS (n := 3) (As := [.ref (h0 0), .int (xs (i + 1)), .ref o]) (rest := []) ⟨hx, hb, hml, hown, hts⟩ (h_billAt l hl9 D cA ad hr h0 o od _ N ((xs (i + 1))) f g s0 s1 k v hc9 hq) qcw_L_billAt qml_L_327 qst_L_billAt qini_L (by decide +kernel) (by rw [eR]; rfl) hN9 hE hV hX hS hA hK hP hD (mid 8 288) (LW_hC _ _ _ _ _ _ _ _ _ _ _ _) (mid_nd _ _) rfl rfl hl.1 rfl (lv_room (Nat.le_of_ble_eq_true rfl)) dL_law_2309 ⟨by rw [eR]; show cells + 1 ≤ 603072; omega, by rw [eR]; show slots + 6 ≤ 7198826; omega⟩) hP hD hS hA (mid 8 288) (LW_hC _ _ _ _ _ _ _ _ _ _ _ _) (HW_fst _ _ _ _ _ _ _ _ _ _ _ _ _ _) (LW_hH _ _ _ _ _ _ _ _ _ _ _ _ _ _ _ _) (fun H locs hP hD hS => ?_)
  refine lv_istore (lv' := [(6, .int (iI (lawC [2] k : Int))), (5, .int (iI (i : Int))), (4, .ref od), (3, .ref o), (2, .ref (hm 0)), (1, .ref (h0 0)), (0, .ref b)]) hx hb dL_law_2312 hl (by decide) rfl (fun ls hl => ?_)
  refine lv_aload_n hx hb dL_law_2314 rfl (lv_at hl 4 rfl) ?_
  refine lv_aload_n hx hb dL_law_2315 rfl (lv_at hl 6 rfl) ?_
  refine lv_iload hx hb dL_law_2316 (lv_at hl 1 rfl) ?_
  refine lv_iconst (v := 1) hx hb dL_law_2318 (by decide) ?_
  refine lv_iadd hx hb dL_law_2319 ?_
  refine vSld hx hb hXs hbl hbA hS (k := i + 1) (sIx1 hi hL9) dL_law_2320 ?_
  refine xCallH (w2 := LW cA ad hm hr h0 o od (fU k f v.toInt64) g sm9 s0 s1) (xRunV (n := 1) (As := [.int (xs (i + 1))]) (rest := []) ⟨hx, hb, hml, hown, hts⟩ (kX13_billAt l D cA hm _ N ((xs (i + 1))) sm (v9, sm9) hm9) qco_X13_billAt qml_L_329 qin_X13_billAt qse_X13_billAt qini_X13 (by decide +kernel) (by rw [eR]; rfl) hK hP hD (mid 0 8) (LW_mC _ _ _ _ _ _ _ _ _ _ _ _) (mid_nd _ _) (q0 := 0) rfl rfl rfl rfl rfl hl.1 rfl (lv_room (Nat.le_of_ble_eq_true rfl)) dL_law_2321 ⟨by rw [eR]; show cells + 1 ≤ 603072; omega, by rw [eR]; show slots + 6 ≤ 7198826; omega⟩) hP hD hS hA (mid 0 8) (LW_mC _ _ _ _ _ _ _ _ _ _ _ _) rfl (LW_mH _ _ _ _ _ _ _ _ _ _ _ _ _) (fun H locs hP hD hS => ?_)
  refine lv_istore (lv' := [(7, .int v9), (6, .int (iI (lawC [2] k : Int))), (5, .int (iI (i : Int))), (4, .ref od), (3, .ref o), (2, .ref (hm 0)), (1, .ref (h0 0)), (0, .ref b)]) hx hb dL_law_2324 hl (by decide) rfl (fun ls hl => ?_)
  refine lv_aload_n hx hb dL_law_2326 rfl (lv_at hl 5 rfl) ?_
  refine xCallH (w2 := LW cA ad hm hr h0 o od (fU k f v.toInt64) g sm9 s0 s1) (xRunV (n := 0) (As := []) (rest := []) ⟨hx, hb, hml, hown, hts⟩ (kX13_thrown l D cA hm _ N sm9 _ rfl) qco_X13_thrown qml_L_184 qin_X13_thrown qse_X13_thrown qini_X13 (by decide +kernel) (by rw [eR]; rfl) hK hP hD (mid 0 8) (LW_mC _ _ _ _ _ _ _ _ _ _ _ _) (mid_nd _ _) (q0 := 0) rfl rfl rfl rfl rfl hl.1 rfl (lv_room (Nat.le_of_ble_eq_true rfl)) dL_law_2327 ⟨by rw [eR]; show cells + 1 ≤ 603072; omega, by rw [eR]; show slots + 6 ≤ 7198826; omega⟩) hP hD hS hA (mid 0 8) (LW_mC _ _ _ _ _ _ _ _ _ _ _ _) rfl (LW_mH _ _ _ _ _ _ _ _ _ _ _ _ _) (fun H locs hP hD hS => ?_)
  refine lv_iload hx hb dL_law_2330 (lv_at hl 1 rfl) ?_
  refine lv_icmp_eq (tgt := 2337) hx hb dL_law_2332 (by decide) (fun _ => ?_) (fun c9 => absurd hth c9)
  refine lv_iload hx hb dL_law_2337 (lv_at hl 1 rfl) ?_
  refine lv_if_ne (tgt := 2354) hx hb dL_law_2339 (by decide) (fun c9 => ?_) (fun c9 => ?_)
  · refine lv_goto (tgt := 3247) hx hb dL_law_2354 (by decide) ?_
    refine W.widen (k := cells + 3) (n := slots + 18) (by omega) (by omega) ?_
    exact kk _ _ _ _ _ hI9 _ _ hP hD hS _ (lv_sub hl [2, 3, 4, 5, 6, 7] rfl)
  · have hk : k = 0 := Classical.byContradiction fun hk => lawC_nz hk (by decide) c9
    subst hk
    have hvv := hv rfl
    subst hvv
    refine lv_aload_n hx hb dL_law_2342 rfl (lv_at hl 4 rfl) ?_
    refine lv_iconst (v := 0) hx hb dL_law_2343 (by decide) ?_
    refine va_lald hx hb hK hP 8 2 rfl rfl (x_lit (n := 1) (k := 0) (by decide)).1 dL_law_2344 ?_
    rw [fU_0]
    refine lv_iload hx hb dL_law_2345 (lv_at hl 0 rfl) ?_
    refine lv_i2l (v := v.toInt64) hx hb dL_law_2347 rfl ?_
    refine W.lcmp hx hb dL_law_2348 ?_
    rw [lg_self]
    refine lv_if_eq (tgt := 2354) hx hb dL_law_2349 (by decide) (fun _ => ?_) (fun c9 => absurd rfl c9)
    refine lv_goto (tgt := 3247) hx hb dL_law_2354 (by decide) ?_
    refine W.widen (k := cells + 3) (n := slots + 18) (by omega) (by omega) ?_
    exact kk _ _ _ _ _ hI9 _ _ hP hD hS _ (lv_sub hl [2, 3, 4, 5, 6, 7] rfl)
set_option maxRecDepth 100000 in
set_option maxHeartbeats 4000000 in
theorem v_openAmount (C : LC p l R s m args c D cA ad A b L xs) (hN : 2000 ≤ N) (hi : i + 6 ≤ L) (hI : IV n s0 s1 sm) (hn : n + 1 ≤ 512) (hcl : cells + 3 ≤ 603072) (hsl : slots + 18 ≤ 7198826) (hP : va_P D vwCl (LW cA ad hm hr h0 o od f g sm s0 s1) H) (hD : va_D A (LW cA ad hm hr h0 o od f g sm s0 s1)) (hS : va_S A s.heap H locs) (hl : lv_has ls 9 [(5, .int (iI (i : Int))), (4, .ref od), (3, .ref o), (2, .ref (hm 0)), (1, .ref (h0 0)), (0, .ref b)])
    (kk : LK p l e R s m args below meth c cells slots Q D cA ad A b hm hr h0 o od i n) : W p l e R s m args below meth c H locs cells slots Q (F0 m 2357 ls []) := by
  obtain ⟨⟨hx, hb, hml, hown, hts⟩, hl9, eR, hN9, hE, hV, hX, hK, hA, hXs, hbl, hbA, hL9⟩ := C
  have hst := st_openAmount (t := s0) (r := s1) (s := sm) hN hI hn (xs (i + 1))
  obtain ⟨k, v, v9, sm9, hc9, hm9, hth, hq, hv, hI9⟩ := hst
  refine lv_aload_n hx hb dL_law_2357 rfl (lv_at hl 4 rfl) ?_
  refine lv_aload_n hx hb dL_law_2358 rfl (lv_at hl 5 rfl) ?_
  refine lv_iload hx hb dL_law_2359 (lv_at hl 0 rfl) ?_
  refine lv_iconst (v := 1) hx hb dL_law_2361 (by decide) ?_
  refine lv_iadd hx hb dL_law_2362 ?_
  refine vSld hx hb hXs hbl hbA hS (k := i + 1) (sIx1 hi hL9) dL_law_2363 ?_
  refine lv_aload_n hx hb dL_law_2364 rfl (lv_at hl 2 rfl) ?_
  refine hCall (w2 := LW cA ad hm hr h0 o od (fU k f v.toInt64) g sm s0 s1) (hRunS (n := 3) (As := [.ref (h0 0), .int (xs (i + 1)), .ref o]) (rest := []) ⟨hx, hb, hml, hown, hts⟩ (h_openAmount l hl9 D cA ad hr h0 o od _ N ((xs (i + 1))) f g s0 s1 k v hc9 hq) qcw_L_openAmount qml_L_330 qst_L_openAmount qini_L (by decide +kernel) (by rw [eR]; rfl) hN9 hE hV hX hS hA hK hP hD (mid 8 288) (LW_hC _ _ _ _ _ _ _ _ _ _ _ _) (mid_nd _ _) rfl rfl hl.1 rfl (lv_room (Nat.le_of_ble_eq_true rfl)) dL_law_2365 ⟨by rw [eR]; show cells + 1 ≤ 603072; omega, by rw [eR]; show slots + 6 ≤ 7198826; omega⟩) hP hD hS hA (mid 8 288) (LW_hC _ _ _ _ _ _ _ _ _ _ _ _) (HW_fst _ _ _ _ _ _ _ _ _ _ _ _ _ _) (LW_hH _ _ _ _ _ _ _ _ _ _ _ _ _ _ _ _) (fun H locs hP hD hS => ?_)
  refine lv_istore (lv' := [(6, .int (iI (lawC [2] k : Int))), (5, .int (iI (i : Int))), (4, .ref od), (3, .ref o), (2, .ref (hm 0)), (1, .ref (h0 0)), (0, .ref b)]) hx hb dL_law_2368 hl (by decide) rfl (fun ls hl => ?_)
  refine lv_aload_n hx hb dL_law_2370 rfl (lv_at hl 4 rfl) ?_
  refine lv_aload_n hx hb dL_law_2371 rfl (lv_at hl 6 rfl) ?_
  refine lv_iload hx hb dL_law_2372 (lv_at hl 1 rfl) ?_
  refine lv_iconst (v := 1) hx hb dL_law_2374 (by decide) ?_
  refine lv_iadd hx hb dL_law_2375 ?_
  refine vSld hx hb hXs hbl hbA hS (k := i + 1) (sIx1 hi hL9) dL_law_2376 ?_
  refine xCallH (w2 := LW cA ad hm hr h0 o od (fU k f v.toInt64) g sm9 s0 s1) (xRunV (n := 1) (As := [.int (xs (i + 1))]) (rest := []) ⟨hx, hb, hml, hown, hts⟩ (kX13_openAmount l D cA hm _ N ((xs (i + 1))) sm (v9, sm9) hm9) qco_X13_openAmount qml_L_332 qin_X13_openAmount qse_X13_openAmount qini_X13 (by decide +kernel) (by rw [eR]; rfl) hK hP hD (mid 0 8) (LW_mC _ _ _ _ _ _ _ _ _ _ _ _) (mid_nd _ _) (q0 := 0) rfl rfl rfl rfl rfl hl.1 rfl (lv_room (Nat.le_of_ble_eq_true rfl)) dL_law_2377 ⟨by rw [eR]; show cells + 1 ≤ 603072; omega, by rw [eR]; show slots + 6 ≤ 7198826; omega⟩) hP hD hS hA (mid 0 8) (LW_mC _ _ _ _ _ _ _ _ _ _ _ _) rfl (LW_mH _ _ _ _ _ _ _ _ _ _ _ _ _) (fun H locs hP hD hS => ?_)
  refine lv_istore (lv' := [(7, .int v9), (6, .int (iI (lawC [2] k : Int))), (5, .int (iI (i : Int))), (4, .ref od), (3, .ref o), (2, .ref (hm 0)), (1, .ref (h0 0)), (0, .ref b)]) hx hb dL_law_2380 hl (by decide) rfl (fun ls hl => ?_)
  refine lv_aload_n hx hb dL_law_2382 rfl (lv_at hl 5 rfl) ?_
  refine xCallH (w2 := LW cA ad hm hr h0 o od (fU k f v.toInt64) g sm9 s0 s1) (xRunV (n := 0) (As := []) (rest := []) ⟨hx, hb, hml, hown, hts⟩ (kX13_thrown l D cA hm _ N sm9 _ rfl) qco_X13_thrown qml_L_184 qin_X13_thrown qse_X13_thrown qini_X13 (by decide +kernel) (by rw [eR]; rfl) hK hP hD (mid 0 8) (LW_mC _ _ _ _ _ _ _ _ _ _ _ _) (mid_nd _ _) (q0 := 0) rfl rfl rfl rfl rfl hl.1 rfl (lv_room (Nat.le_of_ble_eq_true rfl)) dL_law_2383 ⟨by rw [eR]; show cells + 1 ≤ 603072; omega, by rw [eR]; show slots + 6 ≤ 7198826; omega⟩) hP hD hS hA (mid 0 8) (LW_mC _ _ _ _ _ _ _ _ _ _ _ _) rfl (LW_mH _ _ _ _ _ _ _ _ _ _ _ _ _) (fun H locs hP hD hS => ?_)
  refine lv_iload hx hb dL_law_2386 (lv_at hl 1 rfl) ?_
  refine lv_icmp_eq (tgt := 2393) hx hb dL_law_2388 (by decide) (fun _ => ?_) (fun c9 => absurd hth c9)
  refine lv_iload hx hb dL_law_2393 (lv_at hl 1 rfl) ?_
  refine lv_if_ne (tgt := 2410) hx hb dL_law_2395 (by decide) (fun c9 => ?_) (fun c9 => ?_)
  · refine lv_goto (tgt := 3247) hx hb dL_law_2410 (by decide) ?_
    refine W.widen (k := cells + 3) (n := slots + 18) (by omega) (by omega) ?_
    exact kk _ _ _ _ _ hI9 _ _ hP hD hS _ (lv_sub hl [2, 3, 4, 5, 6, 7] rfl)
  · have hk : k = 0 := Classical.byContradiction fun hk => lawC_nz hk (by decide) c9
    subst hk
    have hvv := hv rfl
    subst hvv
    refine lv_aload_n hx hb dL_law_2398 rfl (lv_at hl 4 rfl) ?_
    refine lv_iconst (v := 0) hx hb dL_law_2399 (by decide) ?_
    refine va_lald hx hb hK hP 8 2 rfl rfl (x_lit (n := 1) (k := 0) (by decide)).1 dL_law_2400 ?_
    rw [fU_0]
    refine lv_iload hx hb dL_law_2401 (lv_at hl 0 rfl) ?_
    refine lv_i2l (v := v.toInt64) hx hb dL_law_2403 rfl ?_
    refine W.lcmp hx hb dL_law_2404 ?_
    rw [lg_self]
    refine lv_if_eq (tgt := 2410) hx hb dL_law_2405 (by decide) (fun _ => ?_) (fun c9 => absurd rfl c9)
    refine lv_goto (tgt := 3247) hx hb dL_law_2410 (by decide) ?_
    refine W.widen (k := cells + 3) (n := slots + 18) (by omega) (by omega) ?_
    exact kk _ _ _ _ _ hI9 _ _ hP hD hS _ (lv_sub hl [2, 3, 4, 5, 6, 7] rfl)
set_option maxRecDepth 100000 in
set_option maxHeartbeats 4000000 in
theorem v_openTotal (C : LC p l R s m args c D cA ad A b L xs) (hN : 2000 ≤ N) (hi : i + 6 ≤ L) (hI : IV n s0 s1 sm) (hn : n + 1 ≤ 512) (hcl : cells + 3 ≤ 603072) (hsl : slots + 18 ≤ 7198826) (hP : va_P D vwCl (LW cA ad hm hr h0 o od f g sm s0 s1) H) (hD : va_D A (LW cA ad hm hr h0 o od f g sm s0 s1)) (hS : va_S A s.heap H locs) (hl : lv_has ls 9 [(5, .int (iI (i : Int))), (4, .ref od), (3, .ref o), (2, .ref (hm 0)), (1, .ref (h0 0)), (0, .ref b)])
    (kk : LK p l e R s m args below meth c cells slots Q D cA ad A b hm hr h0 o od i n) : W p l e R s m args below meth c H locs cells slots Q (F0 m 2413 ls []) := by
  obtain ⟨⟨hx, hb, hml, hown, hts⟩, hl9, eR, hN9, hE, hV, hX, hK, hA, hXs, hbl, hbA, hL9⟩ := C
  have hst := st_openTotal (t := s0) (r := s1) (s := sm) hN hI hn
  obtain ⟨v, sm9, hc9, hm9, hI9⟩ := hst
  refine lv_aload_n hx hb dL_law_2413 rfl (lv_at hl 4 rfl) ?_
  refine xCallH (w2 := LW cA ad hm hr h0 o od f g sm s0 s1) (zRunV (n := 0) (As := []) (rest := []) ⟨hx, hb, hml, hown, hts⟩ (kX12_openTotal l D cA ad hr h0 _ N s0 v hc9) qco_X12_openTotal qml_L_333 qin_X12_openTotal qse_X12_openTotal qini_X12 (by decide +kernel) (by rw [eR]; rfl) hN9 hE hS hA hK hP hD (mid 10 61) (LW_tC _ _ _ _ _ _ _ _ _ _ _ _) (mid_nd _ _) (q0 := 0) rfl rfl rfl rfl rfl hl.1 rfl (lv_room (Nat.le_of_ble_eq_true rfl)) dL_law_2414 ⟨by rw [eR]; show cells + 0 ≤ 603072; omega, by rw [eR]; show slots + 0 ≤ 7198826; omega⟩) hP hD hS hA (mid 10 61) (LW_tC _ _ _ _ _ _ _ _ _ _ _ _) rfl (LW_tH _ _ _ _ _ _ _ _ _ _ _ _ _) (fun H locs hP hD hS => ?_)
  refine lv_aload_n hx hb dL_law_2417 rfl (lv_at hl 3 rfl) ?_
  refine xCallH (w2 := LW cA ad hm hr h0 o od f g sm9 s0 s1) (xRunV (n := 0) (As := []) (rest := [.int v]) ⟨hx, hb, hml, hown, hts⟩ (kX13_openTotal l D cA hm _ N sm (v, sm9) hm9) qco_X13_openTotal qml_L_336 qin_X13_openTotal qse_X13_openTotal qini_X13 (by decide +kernel) (by rw [eR]; rfl) hK hP hD (mid 0 8) (LW_mC _ _ _ _ _ _ _ _ _ _ _ _) (mid_nd _ _) (q0 := 0) rfl rfl rfl rfl rfl hl.1 rfl (lv_room (Nat.le_of_ble_eq_true rfl)) dL_law_2418 ⟨by rw [eR]; show cells + 0 ≤ 603072; omega, by rw [eR]; show slots + 0 ≤ 7198826; omega⟩) hP hD hS hA (mid 0 8) (LW_mC _ _ _ _ _ _ _ _ _ _ _ _) rfl (LW_mH _ _ _ _ _ _ _ _ _ _ _ _ _) (fun H locs hP hD hS => ?_)
  refine lv_icmp_eq (tgt := 3247) hx hb dL_law_2421 (by decide) (fun _ => ?_) (fun c9 => absurd rfl c9)
  refine W.widen (k := cells + 3) (n := slots + 18) (by omega) (by omega) ?_
  exact kk _ _ _ _ _ hI9 _ _ hP hD hS _ (lv_sub hl [0, 1, 2, 3, 4, 5] rfl)
set_option maxRecDepth 100000 in
set_option maxHeartbeats 4000000 in
theorem v_isMatched (C : LC p l R s m args c D cA ad A b L xs) (hN : 2000 ≤ N) (hi : i + 6 ≤ L) (hI : IV n s0 s1 sm) (hn : n + 1 ≤ 512) (hcl : cells + 3 ≤ 603072) (hsl : slots + 18 ≤ 7198826) (hP : va_P D vwCl (LW cA ad hm hr h0 o od f g sm s0 s1) H) (hD : va_D A (LW cA ad hm hr h0 o od f g sm s0 s1)) (hS : va_S A s.heap H locs) (hl : lv_has ls 9 [(5, .int (iI (i : Int))), (4, .ref od), (3, .ref o), (2, .ref (hm 0)), (1, .ref (h0 0)), (0, .ref b)])
    (kk : LK p l e R s m args below meth c cells slots Q D cA ad A b hm hr h0 o od i n) : W p l e R s m args below meth c H locs cells slots Q (F0 m 2426 ls []) := by
  obtain ⟨⟨hx, hb, hml, hown, hts⟩, hl9, eR, hN9, hE, hV, hX, hK, hA, hXs, hbl, hbA, hL9⟩ := C
  have hst := st_isMatched (t := s0) (r := s1) (s := sm) hN hI hn (xs (i + 1))
  obtain ⟨k, v, v9, t9, sm9, hc9, hm9, hth, hq, hv, hI9⟩ := hst
  refine lv_aload_n hx hb dL_law_2426 rfl (lv_at hl 4 rfl) ?_
  refine lv_aload_n hx hb dL_law_2427 rfl (lv_at hl 5 rfl) ?_
  refine lv_iload hx hb dL_law_2428 (lv_at hl 0 rfl) ?_
  refine lv_iconst (v := 1) hx hb dL_law_2430 (by decide) ?_
  refine lv_iadd hx hb dL_law_2431 ?_
  refine vSld hx hb hXs hbl hbA hS (k := i + 1) (sIx1 hi hL9) dL_law_2432 ?_
  refine lv_aload_n hx hb dL_law_2433 rfl (lv_at hl 2 rfl) ?_
  refine hCall (w2 := LW cA ad hm hr h0 o od (fU k f (hB v)) g sm t9 s1) (hRunS (n := 3) (As := [.ref (h0 0), .int (xs (i + 1)), .ref o]) (rest := []) ⟨hx, hb, hml, hown, hts⟩ (h_isMatched l hl9 D cA ad hr h0 o od _ N ((xs (i + 1))) f g s0 s1 k v t9 hc9 hq) qcw_L_isMatched qml_L_337 qst_L_isMatched qini_L (by decide +kernel) (by rw [eR]; rfl) hN9 hE hV hX hS hA hK hP hD (mid 8 288) (LW_hC _ _ _ _ _ _ _ _ _ _ _ _) (mid_nd _ _) rfl rfl hl.1 rfl (lv_room (Nat.le_of_ble_eq_true rfl)) dL_law_2434 ⟨by rw [eR]; show cells + 1 ≤ 603072; omega, by rw [eR]; show slots + 6 ≤ 7198826; omega⟩) hP hD hS hA (mid 8 288) (LW_hC _ _ _ _ _ _ _ _ _ _ _ _) (HW_fst _ _ _ _ _ _ _ _ _ _ _ _ _ _) (LW_hH _ _ _ _ _ _ _ _ _ _ _ _ _ _ _ _) (fun H locs hP hD hS => ?_)
  refine lv_istore (lv' := [(6, .int (iI (lawC [3] k : Int))), (5, .int (iI (i : Int))), (4, .ref od), (3, .ref o), (2, .ref (hm 0)), (1, .ref (h0 0)), (0, .ref b)]) hx hb dL_law_2437 hl (by decide) rfl (fun ls hl => ?_)
  refine lv_aload_n hx hb dL_law_2439 rfl (lv_at hl 4 rfl) ?_
  refine lv_aload_n hx hb dL_law_2440 rfl (lv_at hl 6 rfl) ?_
  refine lv_iload hx hb dL_law_2441 (lv_at hl 1 rfl) ?_
  refine lv_iconst (v := 1) hx hb dL_law_2443 (by decide) ?_
  refine lv_iadd hx hb dL_law_2444 ?_
  refine vSld hx hb hXs hbl hbA hS (k := i + 1) (sIx1 hi hL9) dL_law_2445 ?_
  refine xCallH (w2 := LW cA ad hm hr h0 o od (fU k f (hB v)) g sm9 t9 s1) (xRunV (n := 1) (As := [.int (xs (i + 1))]) (rest := []) ⟨hx, hb, hml, hown, hts⟩ (kX13_isMatched l D cA hm _ N ((xs (i + 1))) sm (v9, sm9) hm9) qco_X13_isMatched qml_L_339 qin_X13_isMatched qse_X13_isMatched qini_X13 (by decide +kernel) (by rw [eR]; rfl) hK hP hD (mid 0 8) (LW_mC _ _ _ _ _ _ _ _ _ _ _ _) (mid_nd _ _) (q0 := 0) rfl rfl rfl rfl rfl hl.1 rfl (lv_room (Nat.le_of_ble_eq_true rfl)) dL_law_2446 ⟨by rw [eR]; show cells + 1 ≤ 603072; omega, by rw [eR]; show slots + 6 ≤ 7198826; omega⟩) hP hD hS hA (mid 0 8) (LW_mC _ _ _ _ _ _ _ _ _ _ _ _) rfl (LW_mH _ _ _ _ _ _ _ _ _ _ _ _ _) (fun H locs hP hD hS => ?_)
  refine lv_istore (lv' := [(7, .int v9), (6, .int (iI (lawC [3] k : Int))), (5, .int (iI (i : Int))), (4, .ref od), (3, .ref o), (2, .ref (hm 0)), (1, .ref (h0 0)), (0, .ref b)]) hx hb dL_law_2449 hl (by decide) rfl (fun ls hl => ?_)
  refine lv_aload_n hx hb dL_law_2451 rfl (lv_at hl 5 rfl) ?_
  refine xCallH (w2 := LW cA ad hm hr h0 o od (fU k f (hB v)) g sm9 t9 s1) (xRunV (n := 0) (As := []) (rest := []) ⟨hx, hb, hml, hown, hts⟩ (kX13_thrown l D cA hm _ N sm9 _ rfl) qco_X13_thrown qml_L_184 qin_X13_thrown qse_X13_thrown qini_X13 (by decide +kernel) (by rw [eR]; rfl) hK hP hD (mid 0 8) (LW_mC _ _ _ _ _ _ _ _ _ _ _ _) (mid_nd _ _) (q0 := 0) rfl rfl rfl rfl rfl hl.1 rfl (lv_room (Nat.le_of_ble_eq_true rfl)) dL_law_2452 ⟨by rw [eR]; show cells + 1 ≤ 603072; omega, by rw [eR]; show slots + 6 ≤ 7198826; omega⟩) hP hD hS hA (mid 0 8) (LW_mC _ _ _ _ _ _ _ _ _ _ _ _) rfl (LW_mH _ _ _ _ _ _ _ _ _ _ _ _ _) (fun H locs hP hD hS => ?_)
  refine lv_iload hx hb dL_law_2455 (lv_at hl 1 rfl) ?_
  refine lv_icmp_eq (tgt := 2462) hx hb dL_law_2457 (by decide) (fun _ => ?_) (fun c9 => absurd hth c9)
  refine lv_iload hx hb dL_law_2462 (lv_at hl 1 rfl) ?_
  refine lv_if_ne (tgt := 2486) hx hb dL_law_2464 (by decide) (fun c9 => ?_) (fun c9 => ?_)
  · refine lv_goto (tgt := 3247) hx hb dL_law_2486 (by decide) ?_
    refine W.widen (k := cells + 3) (n := slots + 18) (by omega) (by omega) ?_
    exact kk _ _ _ _ _ hI9 _ _ hP hD hS _ (lv_sub hl [2, 3, 4, 5, 6, 7] rfl)
  · have hk : k = 0 := Classical.byContradiction fun hk => lawC_nz hk (by decide) c9
    subst hk
    have hvv := hv rfl
    subst hvv
    refine lv_aload_n hx hb dL_law_2467 rfl (lv_at hl 4 rfl) ?_
    refine lv_iconst (v := 0) hx hb dL_law_2468 (by decide) ?_
    refine va_lald hx hb hK hP 8 2 rfl rfl (x_lit (n := 1) (k := 0) (by decide)).1 dL_law_2469 ?_
    rw [fU_0]
    refine lv_iload hx hb dL_law_2470 (lv_at hl 0 rfl) ?_
    refine lv_if_eq (tgt := 2479) hx hb dL_law_2472 (by decide) (fun c0 => ?_) (fun c0 => ?_)
    · refine lv_lconst (v := hB v) hx hb dL_law_2479 (by rw [hB, if_pos c0]; decide) ?_
      refine W.lcmp hx hb dL_law_2480 ?_
      rw [lg_self]
      refine lv_if_eq (tgt := 2486) hx hb dL_law_2481 (by decide) (fun _ => ?_) (fun c9 => absurd rfl c9)
      refine lv_goto (tgt := 3247) hx hb dL_law_2486 (by decide) ?_
      refine W.widen (k := cells + 3) (n := slots + 18) (by omega) (by omega) ?_
      exact kk _ _ _ _ _ hI9 _ _ hP hD hS _ (lv_sub hl [2, 3, 4, 5, 6, 7] rfl)
    · refine lv_lconst (v := hB v) hx hb dL_law_2475 (by rw [hB, if_neg c0]; decide) ?_
      refine lv_goto (tgt := 2480) hx hb dL_law_2476 (by decide) ?_
      refine W.lcmp hx hb dL_law_2480 ?_
      rw [lg_self]
      refine lv_if_eq (tgt := 2486) hx hb dL_law_2481 (by decide) (fun _ => ?_) (fun c9 => absurd rfl c9)
      refine lv_goto (tgt := 3247) hx hb dL_law_2486 (by decide) ?_
      refine W.widen (k := cells + 3) (n := slots + 18) (by omega) (by omega) ?_
      exact kk _ _ _ _ _ hI9 _ _ hP hD hS _ (lv_sub hl [2, 3, 4, 5, 6, 7] rfl)
set_option maxRecDepth 100000 in
set_option maxHeartbeats 4000000 in
theorem v_isMatchedBySets (C : LC p l R s m args c D cA ad A b L xs) (hN : 2000 ≤ N) (hi : i + 6 ≤ L) (hI : IV n s0 s1 sm) (hn : n + 1 ≤ 512) (hcl : cells + 3 ≤ 603072) (hsl : slots + 18 ≤ 7198826) (hP : va_P D vwCl (LW cA ad hm hr h0 o od f g sm s0 s1) H) (hD : va_D A (LW cA ad hm hr h0 o od f g sm s0 s1)) (hS : va_S A s.heap H locs) (hl : lv_has ls 9 [(5, .int (iI (i : Int))), (4, .ref od), (3, .ref o), (2, .ref (hm 0)), (1, .ref (h0 0)), (0, .ref b)])
    (kk : LK p l e R s m args below meth c cells slots Q D cA ad A b hm hr h0 o od i n) : W p l e R s m args below meth c H locs cells slots Q (F0 m 2489 ls []) := by
  obtain ⟨⟨hx, hb, hml, hown, hts⟩, hl9, eR, hN9, hE, hV, hX, hK, hA, hXs, hbl, hbA, hL9⟩ := C
  have hst := st_isMatchedBySets (t := s0) (r := s1) (s := sm) hN hI hn (xs (i + 1))
  obtain ⟨k, v, v9, t9, sm9, hc9, hm9, hth, hq, hv, hI9⟩ := hst
  refine lv_aload_n hx hb dL_law_2489 rfl (lv_at hl 4 rfl) ?_
  refine lv_aload_n hx hb dL_law_2490 rfl (lv_at hl 5 rfl) ?_
  refine lv_iload hx hb dL_law_2491 (lv_at hl 0 rfl) ?_
  refine lv_iconst (v := 1) hx hb dL_law_2493 (by decide) ?_
  refine lv_iadd hx hb dL_law_2494 ?_
  refine vSld hx hb hXs hbl hbA hS (k := i + 1) (sIx1 hi hL9) dL_law_2495 ?_
  refine lv_aload_n hx hb dL_law_2496 rfl (lv_at hl 2 rfl) ?_
  refine hCall (w2 := LW cA ad hm hr h0 o od (fU k f (hB v)) g sm t9 s1) (hRunS (n := 3) (As := [.ref (h0 0), .int (xs (i + 1)), .ref o]) (rest := []) ⟨hx, hb, hml, hown, hts⟩ (h_isMatchedBySets l hl9 D cA ad hr h0 o od _ N ((xs (i + 1))) f g s0 s1 k v t9 hc9 hq) qcw_L_isMatchedBySets qml_L_340 qst_L_isMatchedBySets qini_L (by decide +kernel) (by rw [eR]; rfl) hN9 hE hV hX hS hA hK hP hD (mid 8 288) (LW_hC _ _ _ _ _ _ _ _ _ _ _ _) (mid_nd _ _) rfl rfl hl.1 rfl (lv_room (Nat.le_of_ble_eq_true rfl)) dL_law_2497 ⟨by rw [eR]; show cells + 1 ≤ 603072; omega, by rw [eR]; show slots + 6 ≤ 7198826; omega⟩) hP hD hS hA (mid 8 288) (LW_hC _ _ _ _ _ _ _ _ _ _ _ _) (HW_fst _ _ _ _ _ _ _ _ _ _ _ _ _ _) (LW_hH _ _ _ _ _ _ _ _ _ _ _ _ _ _ _ _) (fun H locs hP hD hS => ?_)
  refine lv_istore (lv' := [(6, .int (iI (lawC [3] k : Int))), (5, .int (iI (i : Int))), (4, .ref od), (3, .ref o), (2, .ref (hm 0)), (1, .ref (h0 0)), (0, .ref b)]) hx hb dL_law_2500 hl (by decide) rfl (fun ls hl => ?_)
  refine lv_aload_n hx hb dL_law_2502 rfl (lv_at hl 4 rfl) ?_
  refine lv_aload_n hx hb dL_law_2503 rfl (lv_at hl 6 rfl) ?_
  refine lv_iload hx hb dL_law_2504 (lv_at hl 1 rfl) ?_
  refine lv_iconst (v := 1) hx hb dL_law_2506 (by decide) ?_
  refine lv_iadd hx hb dL_law_2507 ?_
  refine vSld hx hb hXs hbl hbA hS (k := i + 1) (sIx1 hi hL9) dL_law_2508 ?_
  refine xCallH (w2 := LW cA ad hm hr h0 o od (fU k f (hB v)) g sm9 t9 s1) (xRunV (n := 1) (As := [.int (xs (i + 1))]) (rest := []) ⟨hx, hb, hml, hown, hts⟩ (kX13_isMatchedBySets l D cA hm _ N ((xs (i + 1))) sm (v9, sm9) hm9) qco_X13_isMatchedBySets qml_L_342 qin_X13_isMatchedBySets qse_X13_isMatchedBySets qini_X13 (by decide +kernel) (by rw [eR]; rfl) hK hP hD (mid 0 8) (LW_mC _ _ _ _ _ _ _ _ _ _ _ _) (mid_nd _ _) (q0 := 0) rfl rfl rfl rfl rfl hl.1 rfl (lv_room (Nat.le_of_ble_eq_true rfl)) dL_law_2509 ⟨by rw [eR]; show cells + 1 ≤ 603072; omega, by rw [eR]; show slots + 6 ≤ 7198826; omega⟩) hP hD hS hA (mid 0 8) (LW_mC _ _ _ _ _ _ _ _ _ _ _ _) rfl (LW_mH _ _ _ _ _ _ _ _ _ _ _ _ _) (fun H locs hP hD hS => ?_)
  refine lv_istore (lv' := [(7, .int v9), (6, .int (iI (lawC [3] k : Int))), (5, .int (iI (i : Int))), (4, .ref od), (3, .ref o), (2, .ref (hm 0)), (1, .ref (h0 0)), (0, .ref b)]) hx hb dL_law_2512 hl (by decide) rfl (fun ls hl => ?_)
  refine lv_aload_n hx hb dL_law_2514 rfl (lv_at hl 5 rfl) ?_
  refine xCallH (w2 := LW cA ad hm hr h0 o od (fU k f (hB v)) g sm9 t9 s1) (xRunV (n := 0) (As := []) (rest := []) ⟨hx, hb, hml, hown, hts⟩ (kX13_thrown l D cA hm _ N sm9 _ rfl) qco_X13_thrown qml_L_184 qin_X13_thrown qse_X13_thrown qini_X13 (by decide +kernel) (by rw [eR]; rfl) hK hP hD (mid 0 8) (LW_mC _ _ _ _ _ _ _ _ _ _ _ _) (mid_nd _ _) (q0 := 0) rfl rfl rfl rfl rfl hl.1 rfl (lv_room (Nat.le_of_ble_eq_true rfl)) dL_law_2515 ⟨by rw [eR]; show cells + 1 ≤ 603072; omega, by rw [eR]; show slots + 6 ≤ 7198826; omega⟩) hP hD hS hA (mid 0 8) (LW_mC _ _ _ _ _ _ _ _ _ _ _ _) rfl (LW_mH _ _ _ _ _ _ _ _ _ _ _ _ _) (fun H locs hP hD hS => ?_)
  refine lv_iload hx hb dL_law_2518 (lv_at hl 1 rfl) ?_
  refine lv_icmp_eq (tgt := 2525) hx hb dL_law_2520 (by decide) (fun _ => ?_) (fun c9 => absurd hth c9)
  refine lv_iload hx hb dL_law_2525 (lv_at hl 1 rfl) ?_
  refine lv_if_ne (tgt := 2549) hx hb dL_law_2527 (by decide) (fun c9 => ?_) (fun c9 => ?_)
  · refine lv_goto (tgt := 3247) hx hb dL_law_2549 (by decide) ?_
    refine W.widen (k := cells + 3) (n := slots + 18) (by omega) (by omega) ?_
    exact kk _ _ _ _ _ hI9 _ _ hP hD hS _ (lv_sub hl [2, 3, 4, 5, 6, 7] rfl)
  · have hk : k = 0 := Classical.byContradiction fun hk => lawC_nz hk (by decide) c9
    subst hk
    have hvv := hv rfl
    subst hvv
    refine lv_aload_n hx hb dL_law_2530 rfl (lv_at hl 4 rfl) ?_
    refine lv_iconst (v := 0) hx hb dL_law_2531 (by decide) ?_
    refine va_lald hx hb hK hP 8 2 rfl rfl (x_lit (n := 1) (k := 0) (by decide)).1 dL_law_2532 ?_
    rw [fU_0]
    refine lv_iload hx hb dL_law_2533 (lv_at hl 0 rfl) ?_
    refine lv_if_eq (tgt := 2542) hx hb dL_law_2535 (by decide) (fun c0 => ?_) (fun c0 => ?_)
    · refine lv_lconst (v := hB v) hx hb dL_law_2542 (by rw [hB, if_pos c0]; decide) ?_
      refine W.lcmp hx hb dL_law_2543 ?_
      rw [lg_self]
      refine lv_if_eq (tgt := 2549) hx hb dL_law_2544 (by decide) (fun _ => ?_) (fun c9 => absurd rfl c9)
      refine lv_goto (tgt := 3247) hx hb dL_law_2549 (by decide) ?_
      refine W.widen (k := cells + 3) (n := slots + 18) (by omega) (by omega) ?_
      exact kk _ _ _ _ _ hI9 _ _ hP hD hS _ (lv_sub hl [2, 3, 4, 5, 6, 7] rfl)
    · refine lv_lconst (v := hB v) hx hb dL_law_2538 (by rw [hB, if_neg c0]; decide) ?_
      refine lv_goto (tgt := 2543) hx hb dL_law_2539 (by decide) ?_
      refine W.lcmp hx hb dL_law_2543 ?_
      rw [lg_self]
      refine lv_if_eq (tgt := 2549) hx hb dL_law_2544 (by decide) (fun _ => ?_) (fun c9 => absurd rfl c9)
      refine lv_goto (tgt := 3247) hx hb dL_law_2549 (by decide) ?_
      refine W.widen (k := cells + 3) (n := slots + 18) (by omega) (by omega) ?_
      exact kk _ _ _ _ _ hI9 _ _ hP hD hS _ (lv_sub hl [2, 3, 4, 5, 6, 7] rfl)
set_option maxRecDepth 100000 in
set_option maxHeartbeats 4000000 in
theorem v_matchSize (C : LC p l R s m args c D cA ad A b L xs) (hN : 2000 ≤ N) (hi : i + 6 ≤ L) (hI : IV n s0 s1 sm) (hn : n + 1 ≤ 512) (hcl : cells + 3 ≤ 603072) (hsl : slots + 18 ≤ 7198826) (hP : va_P D vwCl (LW cA ad hm hr h0 o od f g sm s0 s1) H) (hD : va_D A (LW cA ad hm hr h0 o od f g sm s0 s1)) (hS : va_S A s.heap H locs) (hl : lv_has ls 9 [(5, .int (iI (i : Int))), (4, .ref od), (3, .ref o), (2, .ref (hm 0)), (1, .ref (h0 0)), (0, .ref b)])
    (kk : LK p l e R s m args below meth c cells slots Q D cA ad A b hm hr h0 o od i n) : W p l e R s m args below meth c H locs cells slots Q (F0 m 2552 ls []) := by
  obtain ⟨⟨hx, hb, hml, hown, hts⟩, hl9, eR, hN9, hE, hV, hX, hK, hA, hXs, hbl, hbA, hL9⟩ := C
  have hst := st_matchSize (t := s0) (r := s1) (s := sm) hN hI hn (xs (i + 1))
  obtain ⟨k, v, v9, t9, sm9, hc9, hm9, hth, hq, hv, hI9⟩ := hst
  refine lv_aload_n hx hb dL_law_2552 rfl (lv_at hl 4 rfl) ?_
  refine lv_aload_n hx hb dL_law_2553 rfl (lv_at hl 5 rfl) ?_
  refine lv_iload hx hb dL_law_2554 (lv_at hl 0 rfl) ?_
  refine lv_iconst (v := 1) hx hb dL_law_2556 (by decide) ?_
  refine lv_iadd hx hb dL_law_2557 ?_
  refine vSld hx hb hXs hbl hbA hS (k := i + 1) (sIx1 hi hL9) dL_law_2558 ?_
  refine lv_aload_n hx hb dL_law_2559 rfl (lv_at hl 2 rfl) ?_
  refine hCall (w2 := LW cA ad hm hr h0 o od (fU k f v.toInt64) g sm t9 s1) (hRunS (n := 3) (As := [.ref (h0 0), .int (xs (i + 1)), .ref o]) (rest := []) ⟨hx, hb, hml, hown, hts⟩ (h_matchSize l hl9 D cA ad hr h0 o od _ N ((xs (i + 1))) f g s0 s1 k v t9 hc9 hq) qcw_L_matchSize qml_L_343 qst_L_matchSize qini_L (by decide +kernel) (by rw [eR]; rfl) hN9 hE hV hX hS hA hK hP hD (mid 8 288) (LW_hC _ _ _ _ _ _ _ _ _ _ _ _) (mid_nd _ _) rfl rfl hl.1 rfl (lv_room (Nat.le_of_ble_eq_true rfl)) dL_law_2560 ⟨by rw [eR]; show cells + 2 ≤ 603072; omega, by rw [eR]; show slots + 12 ≤ 7198826; omega⟩) hP hD hS hA (mid 8 288) (LW_hC _ _ _ _ _ _ _ _ _ _ _ _) (HW_fst _ _ _ _ _ _ _ _ _ _ _ _ _ _) (LW_hH _ _ _ _ _ _ _ _ _ _ _ _ _ _ _ _) (fun H locs hP hD hS => ?_)
  refine lv_istore (lv' := [(6, .int (iI (lawC [3, 2] k : Int))), (5, .int (iI (i : Int))), (4, .ref od), (3, .ref o), (2, .ref (hm 0)), (1, .ref (h0 0)), (0, .ref b)]) hx hb dL_law_2563 hl (by decide) rfl (fun ls hl => ?_)
  refine lv_aload_n hx hb dL_law_2565 rfl (lv_at hl 4 rfl) ?_
  refine lv_aload_n hx hb dL_law_2566 rfl (lv_at hl 6 rfl) ?_
  refine lv_iload hx hb dL_law_2567 (lv_at hl 1 rfl) ?_
  refine lv_iconst (v := 1) hx hb dL_law_2569 (by decide) ?_
  refine lv_iadd hx hb dL_law_2570 ?_
  refine vSld hx hb hXs hbl hbA hS (k := i + 1) (sIx1 hi hL9) dL_law_2571 ?_
  refine xCallH (w2 := LW cA ad hm hr h0 o od (fU k f v.toInt64) g sm9 t9 s1) (xRunV (n := 1) (As := [.int (xs (i + 1))]) (rest := []) ⟨hx, hb, hml, hown, hts⟩ (kX13_matchSize l D cA hm _ N ((xs (i + 1))) sm (v9, sm9) hm9) qco_X13_matchSize qml_L_345 qin_X13_matchSize qse_X13_matchSize qini_X13 (by decide +kernel) (by rw [eR]; rfl) hK hP hD (mid 0 8) (LW_mC _ _ _ _ _ _ _ _ _ _ _ _) (mid_nd _ _) (q0 := 0) rfl rfl rfl rfl rfl hl.1 rfl (lv_room (Nat.le_of_ble_eq_true rfl)) dL_law_2572 ⟨by rw [eR]; show cells + 2 ≤ 603072; omega, by rw [eR]; show slots + 12 ≤ 7198826; omega⟩) hP hD hS hA (mid 0 8) (LW_mC _ _ _ _ _ _ _ _ _ _ _ _) rfl (LW_mH _ _ _ _ _ _ _ _ _ _ _ _ _) (fun H locs hP hD hS => ?_)
  refine lv_istore (lv' := [(7, .int v9), (6, .int (iI (lawC [3, 2] k : Int))), (5, .int (iI (i : Int))), (4, .ref od), (3, .ref o), (2, .ref (hm 0)), (1, .ref (h0 0)), (0, .ref b)]) hx hb dL_law_2575 hl (by decide) rfl (fun ls hl => ?_)
  refine lv_aload_n hx hb dL_law_2577 rfl (lv_at hl 5 rfl) ?_
  refine xCallH (w2 := LW cA ad hm hr h0 o od (fU k f v.toInt64) g sm9 t9 s1) (xRunV (n := 0) (As := []) (rest := []) ⟨hx, hb, hml, hown, hts⟩ (kX13_thrown l D cA hm _ N sm9 _ rfl) qco_X13_thrown qml_L_184 qin_X13_thrown qse_X13_thrown qini_X13 (by decide +kernel) (by rw [eR]; rfl) hK hP hD (mid 0 8) (LW_mC _ _ _ _ _ _ _ _ _ _ _ _) (mid_nd _ _) (q0 := 0) rfl rfl rfl rfl rfl hl.1 rfl (lv_room (Nat.le_of_ble_eq_true rfl)) dL_law_2578 ⟨by rw [eR]; show cells + 2 ≤ 603072; omega, by rw [eR]; show slots + 12 ≤ 7198826; omega⟩) hP hD hS hA (mid 0 8) (LW_mC _ _ _ _ _ _ _ _ _ _ _ _) rfl (LW_mH _ _ _ _ _ _ _ _ _ _ _ _ _) (fun H locs hP hD hS => ?_)
  refine lv_iload hx hb dL_law_2581 (lv_at hl 1 rfl) ?_
  refine lv_icmp_eq (tgt := 2588) hx hb dL_law_2583 (by decide) (fun _ => ?_) (fun c9 => absurd hth c9)
  refine lv_iload hx hb dL_law_2588 (lv_at hl 1 rfl) ?_
  refine lv_if_ne (tgt := 2605) hx hb dL_law_2590 (by decide) (fun c9 => ?_) (fun c9 => ?_)
  · refine lv_goto (tgt := 3247) hx hb dL_law_2605 (by decide) ?_
    refine W.widen (k := cells + 3) (n := slots + 18) (by omega) (by omega) ?_
    exact kk _ _ _ _ _ hI9 _ _ hP hD hS _ (lv_sub hl [2, 3, 4, 5, 6, 7] rfl)
  · have hk : k = 0 := Classical.byContradiction fun hk => lawC_nz hk (by decide) c9
    subst hk
    have hvv := hv rfl
    subst hvv
    refine lv_aload_n hx hb dL_law_2593 rfl (lv_at hl 4 rfl) ?_
    refine lv_iconst (v := 0) hx hb dL_law_2594 (by decide) ?_
    refine va_lald hx hb hK hP 8 2 rfl rfl (x_lit (n := 1) (k := 0) (by decide)).1 dL_law_2595 ?_
    rw [fU_0]
    refine lv_iload hx hb dL_law_2596 (lv_at hl 0 rfl) ?_
    refine lv_i2l (v := v.toInt64) hx hb dL_law_2598 rfl ?_
    refine W.lcmp hx hb dL_law_2599 ?_
    rw [lg_self]
    refine lv_if_eq (tgt := 2605) hx hb dL_law_2600 (by decide) (fun _ => ?_) (fun c9 => absurd rfl c9)
    refine lv_goto (tgt := 3247) hx hb dL_law_2605 (by decide) ?_
    refine W.widen (k := cells + 3) (n := slots + 18) (by omega) (by omega) ?_
    exact kk _ _ _ _ _ hI9 _ _ hP hD hS _ (lv_sub hl [2, 3, 4, 5, 6, 7] rfl)
end CASES
