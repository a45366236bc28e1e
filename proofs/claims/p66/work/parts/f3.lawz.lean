/-! ===== the law's body: the third object ===== -/
abbrev RLw : Room := { frames := 22, cells := 621907, slots := 7228180, locals := 10922 }
theorem one_ne : ¬ (1 : Int32) = 0 := by decide
section LZ
variable {p : Program} {l : Launch} {e : Env} {rm : Room} {s : State} {m : MethodId} {below : List Frame} {meth : Method} {c : Code} {H : Heap} {locs : List Loc} {Q : State → Prop} {ls : Array Slot} {D : va_G} {cA : Nat → ClassId} {ad an tt : Nat → Nat} {hr : Nat → Nat → Nat} {h0 : Nat → Nat} {A : Nat → Prop} {b n a1 a2 : Nat} {v3 v4 : Int32} {t : ThlS} {r : Nat → BooS} {P9 : va_W}
set_option maxRecDepth 100000 in
set_option maxHeartbeats 4000000 in
theorem lz_0 (hn9 : n < 9) (hn0 : 0 < n) (hp9 : P9.length = 572) (hl9 : l.stackTraces = false) (B : lB p l s m [.ref b] c meth cL_law 7 (some .boolean) D cA ad an tt A) (erm : RLw = rm) (hV : V 0 t r zA0) (hP : va_P D vwCl (P9 ++ (TR cA ad hr h0 t r ++ [])) H) (hD : va_D A (P9 ++ (TR cA ad hr h0 t r ++ []))) (hS : va_S A s.heap H locs) (hl : lv_has ls 7 [(6, .ref (h0 0)), (5, .int (iI (n : Int))), (4, .int v4), (3, .int v3), (2, .ref a2), (1, .ref a1), (0, .ref b)]) (kk : ∀ (t : ThlS) (r : Nat → BooS), V 1 t r zA0 → ∀ (H : Heap) (locs : List Loc), va_P D vwCl (P9 ++ (TR cA ad hr h0 t r ++ [])) H → va_D A (P9 ++ (TR cA ad hr h0 t r ++ [])) → va_S A s.heap H locs → ∀ ls : Array Slot, lv_has ls 7 [(6, .ref (h0 0)), (5, .int (iI (n : Int))), (4, .int v4), (3, .int v3), (2, .ref a2), (1, .ref a1), (0, .ref b)] → W p l e rm s m ([.ref b] : List Value).toArray below meth c H locs 220000 2200000 Q (F0 m 479 ls [])) : W p l e rm s m ([.ref b] : List Value).toArray below meth c H locs 200000 2000000 Q (F0 m 342 ls []) := by
  have hx := B.1.1
  have hb := B.1.2.1
  refine lv_aload hx hb dL_law_342 (lv_at hl 0 rfl) ?_
  obtain ⟨u1, q⟩ := (zr1 hV)
  refine ocTz (t9 := (Thls3 t u1)) B hp9 hP hD hS (kX12_isConsistent l D cA ad hr h0 _ 2000  t (1, (Thls3 t u1)) q) qco_X12_isConsistent qml_L_237 qin_X12_isConsistent qse_X12_isConsistent qini_X12 (show xCd yX12_isConsistent 0 = true by decide +kernel) (by rw [← erm]; rfl) hl.1 rfl (lv_room (Nat.le_of_ble_eq_true rfl)) dL_law_344 ⟨by rw [← erm]; exact Nat.le_of_ble_eq_true rfl, by rw [← erm]; exact Nat.le_of_ble_eq_true rfl⟩ (fun H locs hP hD hS => ?_)
  have hV := V.mat hV u1
  refine lv_if_eq (tgt := 477) hx hb dL_law_347 (by decide) (fun cc => absurd cc one_ne) (fun _ => ?_)
  refine lv_aload hx hb dL_law_350 (lv_at hl 0 rfl) ?_
  refine ocTz (t9 := (Thls3 t u1)) B hp9 hP hD hS (kX12_accountCount l D cA ad hr h0 _ 2000  (Thls3 t u1) 6 (zr2 hV)) qco_X12_accountCount qml_L_30 qin_X12_accountCount qse_X12_accountCount qini_X12 (show xCd yX12_accountCount 0 = true by decide +kernel) (by rw [← erm]; rfl) hl.1 rfl (lv_room (Nat.le_of_ble_eq_true rfl)) dL_law_352 ⟨by rw [← erm]; exact Nat.le_of_ble_eq_true rfl, by rw [← erm]; exact Nat.le_of_ble_eq_true rfl⟩ (fun H locs hP hD hS => ?_)
  refine lv_bipush (v := 6) hx hb dL_law_355 (by decide) ?_
  refine lv_icmp_ne (tgt := 477) hx hb dL_law_357 (by decide) (fun cc => absurd rfl cc) (fun _ => ?_)
  refine lv_aload hx hb dL_law_360 (lv_at hl 0 rfl) ?_
  refine lv_iconst (v := 0) hx hb dL_law_362 (by decide) ?_
  refine ocT (t9 := (Thls3 t u1)) (mc := 1) (ms := 6) B hp9 hP hD hS (kX12_balance l hl9 D cA ad hr h0 _ 2000 0 (Thls3 t u1) (0, 500) (zr3 hV)) qco_X12_balance qml_L_241 qin_X12_balance qse_X12_balance qini_X12 (show xCd yX12_balance 1 = true by decide +kernel) (by rw [← erm]; rfl) hl.1 rfl (lv_room (Nat.le_of_ble_eq_true rfl)) dL_law_363 ⟨by rw [← erm]; exact Nat.le_of_ble_eq_true rfl, by rw [← erm]; exact Nat.le_of_ble_eq_true rfl⟩ (fun H locs hP hD hS => ?_)
  refine lv_ldc2 hx hb B.1.2.2.2.1 (B.1.2.2.2.2 _ qcl_L_244) dL_law_366 ?_
  refine W.lcmp hx hb dL_law_369 ?_
  refine lv_if_ne (tgt := 477) hx hb dL_law_370 (by decide) (fun cc => absurd (lg_same _) cc) (fun _ => ?_)
  refine lv_aload hx hb dL_law_373 (lv_at hl 0 rfl) ?_
  refine lv_iconst (v := 3) hx hb dL_law_375 (by decide) ?_
  refine ocT (t9 := (Thls3 t u1)) (mc := 1) (ms := 6) B hp9 hP hD hS (kX12_balance l hl9 D cA ad hr h0 _ 2000 3 (Thls3 t u1) (0, 500) (zr4 hV)) qco_X12_balance qml_L_241 qin_X12_balance qse_X12_balance qini_X12 (show xCd yX12_balance 1 = true by decide +kernel) (by rw [← erm]; rfl) hl.1 rfl (lv_room (Nat.le_of_ble_eq_true rfl)) dL_law_376 ⟨by rw [← erm]; exact Nat.le_of_ble_eq_true rfl, by rw [← erm]; exact Nat.le_of_ble_eq_true rfl⟩ (fun H locs hP hD hS => ?_)
  refine lv_ldc2 hx hb B.1.2.2.2.1 (B.1.2.2.2.2 _ qcl_L_244) dL_law_379 ?_
  refine W.lcmp hx hb dL_law_382 ?_
  refine lv_if_ne (tgt := 477) hx hb dL_law_383 (by decide) (fun cc => absurd (lg_same _) cc) (fun _ => ?_)
  refine lv_aload hx hb dL_law_386 (lv_at hl 0 rfl) ?_
  refine ocTz (t9 := (Thls3 t u1)) B hp9 hP hD hS (kX12_sumOfDebits l D cA ad hr h0 _ 2000  (Thls3 t u1) 500 (zr5 hV)) qco_X12_sumOfDebits qml_L_246 qin_X12_sumOfDebits qse_X12_sumOfDebits qini_X12 (show xCd yX12_sumOfDebits 0 = true by decide +kernel) (by rw [← erm]; rfl) hl.1 rfl (lv_room (Nat.le_of_ble_eq_true rfl)) dL_law_388 ⟨by rw [← erm]; exact Nat.le_of_ble_eq_true rfl, by rw [← erm]; exact Nat.le_of_ble_eq_true rfl⟩ (fun H locs hP hD hS => ?_)
  refine lv_ldc2 hx hb B.1.2.2.2.1 (B.1.2.2.2.2 _ qcl_L_244) dL_law_391 ?_
  refine W.lcmp hx hb dL_law_394 ?_
  refine lv_if_ne (tgt := 477) hx hb dL_law_395 (by decide) (fun cc => absurd (lg_same _) cc) (fun _ => ?_)
  refine lv_aload hx hb dL_law_398 (lv_at hl 0 rfl) ?_
  refine ocTz (t9 := (Thls3 t u1)) B hp9 hP hD hS (kX12_entryCount l D cA ad hr h0 _ 2000  (Thls3 t u1) 0 (zr6 hV)) qco_X12_entryCount qml_L_42 qin_X12_entryCount qse_X12_entryCount qini_X12 (show xCd yX12_entryCount 0 = true by decide +kernel) (by rw [← erm]; rfl) hl.1 rfl (lv_room (Nat.le_of_ble_eq_true rfl)) dL_law_400 ⟨by rw [← erm]; exact Nat.le_of_ble_eq_true rfl, by rw [← erm]; exact Nat.le_of_ble_eq_true rfl⟩ (fun H locs hP hD hS => ?_)
  refine lv_if_ne (tgt := 477) hx hb dL_law_403 (by decide) (fun cc => absurd rfl cc) (fun _ => ?_)
  refine lv_aload hx hb dL_law_406 (lv_at hl 0 rfl) ?_
  refine lv_iconst (v := 0) hx hb dL_law_408 (by decide) ?_
  refine ocT (t9 := (Thls3 t u1)) (mc := 1) (ms := 6) B hp9 hP hD hS (kX12_treeSize l hl9 D cA ad hr h0 _ 2000 0 (Thls3 t u1) (0, 1) (zr7 hV)) qco_X12_treeSize qml_L_250 qin_X12_treeSize qse_X12_treeSize qini_X12 (show xCd yX12_treeSize 1 = true by decide +kernel) (by rw [← erm]; rfl) hl.1 rfl (lv_room (Nat.le_of_ble_eq_true rfl)) dL_law_409 ⟨by rw [← erm]; exact Nat.le_of_ble_eq_true rfl, by rw [← erm]; exact Nat.le_of_ble_eq_true rfl⟩ (fun H locs hP hD hS => ?_)
  refine lv_iconst (v := 1) hx hb dL_law_412 (by decide) ?_
  refine lv_icmp_ne (tgt := 477) hx hb dL_law_413 (by decide) (fun cc => absurd rfl cc) (fun _ => ?_)
  refine lv_aload hx hb dL_law_416 (lv_at hl 0 rfl) ?_
  refine ocT (t9 := (Thls3 t u1)) (mc := 1) (ms := 6) B hp9 hP hD hS (kX12_claimShare l hl9 D cA ad hr h0 _ 2000  (Thls3 t u1) (0, FP.fconst0) (zr8 hV)) qco_X12_claimShare qml_L_253 qin_X12_claimShare qse_X12_claimShare qini_X12 (show xCd yX12_claimShare 0 = true by decide +kernel) (by rw [← erm]; rfl) hl.1 rfl (lv_room (Nat.le_of_ble_eq_true rfl)) dL_law_418 ⟨by rw [← erm]; exact Nat.le_of_ble_eq_true rfl, by rw [← erm]; exact Nat.le_of_ble_eq_true rfl⟩ (fun H locs hP hD hS => ?_)
  refine lv_fconst0 hx hb dL_law_421 ?_
  refine lv_fcmp hx hb dL_law_422 ?_
  refine lv_if_ne (tgt := 477) hx hb dL_law_423 (by decide) (fun cc => absurd (by decide +kernel) cc) (fun _ => ?_)
  refine lv_aload hx hb dL_law_426 (lv_at hl 0 rfl) ?_
  refine ocTz (t9 := (Thls3 t u1)) B hp9 hP hD hS (kX12_profit l D cA ad hr h0 _ 2000  (Thls3 t u1) 0 (zr9 hV)) qco_X12_profit qml_L_257 qin_X12_profit qse_X12_profit qini_X12 (show xCd yX12_profit 0 = true by decide +kernel) (by rw [← erm]; rfl) hl.1 rfl (lv_room (Nat.le_of_ble_eq_true rfl)) dL_law_428 ⟨by rw [← erm]; exact Nat.le_of_ble_eq_true rfl, by rw [← erm]; exact Nat.le_of_ble_eq_true rfl⟩ (fun H locs hP hD hS => ?_)
  refine lv_lconst (v := 0) hx hb dL_law_431 (by decide) ?_
  refine W.lcmp hx hb dL_law_432 ?_
  refine lv_if_ne (tgt := 477) hx hb dL_law_433 (by decide) (fun cc => absurd (lg_same _) cc) (fun _ => ?_)
  refine lv_aload hx hb dL_law_436 (lv_at hl 0 rfl) ?_
  refine lv_bipush (v := 15) hx hb dL_law_438 (by decide) ?_
  refine lv_iconst (v := 5) hx hb dL_law_440 (by decide) ?_
  refine lv_iconst (v := 0) hx hb dL_law_441 (by decide) ?_
  refine ocLW (F := fun u => u) (mc := 2) (ms := 12) B hp9 hP hD hS (l_act15 l hl9 D cA ad an tt hr h0 _ _ 5 0 (Thls3 t u1) r zA0 hV (by decide)) qcw_L_act qml_L_33 qst_L_act qini_L (show xCd yL_act 4 = true by decide +kernel) (by rw [← erm]; rfl) hl.1 rfl (lv_room (Nat.le_of_ble_eq_true rfl)) dL_law_442 ⟨by rw [← erm]; exact Nat.le_of_ble_eq_true rfl, by rw [← erm]; exact Nat.le_of_ble_eq_true rfl⟩ (fun u2 hV9 H locs hP hD hS => ?_)
  rw [zf10]
  have hV := hV9
  refine lv_ldc hx hb B.1.2.2.2.1 (B.1.2.2.2.2 _ qci_L_131) dL_law_445 ?_
  refine lv_icmp_ne (tgt := 477) hx hb dL_law_447 (by decide) (fun cc => absurd rfl cc) (fun _ => ?_)
  refine lv_aload hx hb dL_law_450 (lv_at hl 0 rfl) ?_
  refine lv_bipush (v := 13) hx hb dL_law_452 (by decide) ?_
  refine lv_iconst (v := 1) hx hb dL_law_454 (by decide) ?_
  refine lv_iconst (v := 0) hx hb dL_law_455 (by decide) ?_
  refine ocLW (F := fun u => u) (mc := 1) (ms := 6) B hp9 hP hD hS (l_act13 l hl9 D cA ad an tt hr h0 _ _ 1 0 u2.1 u2.2 zA0 hV) qcw_L_act qml_L_33 qst_L_act qini_L (show xCd yL_act 4 = true by decide +kernel) (by rw [← erm]; rfl) hl.1 rfl (lv_room (Nat.le_of_ble_eq_true rfl)) dL_law_456 ⟨by rw [← erm]; exact Nat.le_of_ble_eq_true rfl, by rw [← erm]; exact Nat.le_of_ble_eq_true rfl⟩ (fun u3 hV9 H locs hP hD hS => ?_)
  rw [zf11]
  have hV := hV9
  refine lv_ldc hx hb B.1.2.2.2.1 (B.1.2.2.2.2 _ qci_L_68) dL_law_459 ?_
  refine lv_icmp_ne (tgt := 477) hx hb dL_law_461 (by decide) (fun cc => absurd rfl cc) (fun _ => ?_)
  refine lv_aload hx hb dL_law_464 (lv_at hl 0 rfl) ?_
  refine lv_iconst (v := 3) hx hb dL_law_466 (by decide) ?_
  refine lv_iconst (v := 0) hx hb dL_law_467 (by decide) ?_
  refine lv_iconst (v := 0) hx hb dL_law_468 (by decide) ?_
  refine ocLW (F := fun u => u) (mc := 1) (ms := 6) B hp9 hP hD hS (l_act3 l hl9 D cA ad an tt hr h0 _ _ 0 0 u3.1 u3.2 zA0 hV (by omega)) qcw_L_act qml_L_33 qst_L_act qini_L (show xCd yL_act 4 = true by decide +kernel) (by rw [← erm]; rfl) hl.1 rfl (lv_room (Nat.le_of_ble_eq_true rfl)) dL_law_469 ⟨by rw [← erm]; exact Nat.le_of_ble_eq_true rfl, by rw [← erm]; exact Nat.le_of_ble_eq_true rfl⟩ (fun u4 hV9 H locs hP hD hS => ?_)
  rw [zf12.1]
  rw [lO_no _ zf12.2] at hV9
  have hV := hV9
  refine lv_ldc hx hb B.1.2.2.2.1 (B.1.2.2.2.2 _ qci_L_131) dL_law_472 ?_
  refine lv_icmp_eq (tgt := 479) hx hb dL_law_474 (by decide) (fun _ => ?_) (fun cc => absurd rfl cc)
  refine W.widen (k := 220000) (n := 2200000) (Nat.le_of_ble_eq_true rfl) (Nat.le_of_ble_eq_true rfl) ?_
  exact kk u4.1 u4.2 hV H locs hP hD hS ls hl
set_option maxRecDepth 100000 in
set_option maxHeartbeats 4000000 in
theorem lz_1 (hn9 : n < 9) (hn0 : 0 < n) (hp9 : P9.length = 572) (hl9 : l.stackTraces = false) (B : lB p l s m [.ref b] c meth cL_law 7 (some .boolean) D cA ad an tt A) (erm : RLw = rm) (hV : V 1 t r zA0) (hP : va_P D vwCl (P9 ++ (TR cA ad hr h0 t r ++ [])) H) (hD : va_D A (P9 ++ (TR cA ad hr h0 t r ++ []))) (hS : va_S A s.heap H locs) (hl : lv_has ls 7 [(6, .ref (h0 0)), (5, .int (iI (n : Int))), (4, .int v4), (3, .int v3), (2, .ref a2), (1, .ref a1), (0, .ref b)]) (kk : ∀ (t : ThlS) (r : Nat → BooS), V 13 t r zA1 → ∀ (H : Heap) (locs : List Loc), va_P D vwCl (P9 ++ (TR cA ad hr h0 t r ++ [])) H → va_D A (P9 ++ (TR cA ad hr h0 t r ++ [])) → va_S A s.heap H locs → ∀ ls : Array Slot, lv_has ls 7 [(6, .ref (h0 0)), (5, .int (iI (n : Int))), (4, .int v4), (3, .int v3), (2, .ref a2), (1, .ref a1), (0, .ref b)] → W p l e rm s m ([.ref b] : List Value).toArray below meth c H locs 240000 2400000 Q (F0 m 712 ls [])) : W p l e rm s m ([.ref b] : List Value).toArray below meth c H locs 220000 2200000 Q (F0 m 479 ls []) := by
  have hx := B.1.1
  have hb := B.1.2.1
  refine lv_aload hx hb dL_law_479 (lv_at hl 0 rfl) ?_
  refine lv_ldcwS hx hb B.1.2.2.2.1 (B.2.2.2.2.2.1.2.2 15 (by decide)) dL_law_481 ?_
  refine ocL (F := fun u => u) (mc := 60) (ms := 360) B hp9 hP hD hS (l_put l hl9 D cA ad an tt hr h0 _ _ 15 (by decide) t r zA0 hV zt0) qco_L_put qml_L_191 qst_L_put qini_L (show xCd yL_put 2 = true by decide +kernel) (by rw [← erm]; rfl) hl.1 rfl (lv_room (Nat.le_of_ble_eq_true rfl)) dL_law_484 ⟨by rw [← erm]; exact Nat.le_of_ble_eq_true rfl, by rw [← erm]; exact Nat.le_of_ble_eq_true rfl⟩ (fun u1 hV9 H locs hP hD hS => ?_)
  have hV := hV9
  refine lv_aload hx hb dL_law_487 (lv_at hl 0 rfl) ?_
  obtain ⟨t2, r2, q, hV⟩ := (zrun hV (by omega))
  refine ocR (t9 := t2) (r9 := r2) (mc := 1) (ms := 6) B hp9 hP hD hS (kX12_runCommands l hl9 D cA ad hr h0 _ 2000  u1.1 u1.2 (0, 7, t2, r2) q) qco_X12_runCommands qml_L_195 qin_X12_runCommands qse_X12_runCommands qini_X12 (show xCd yX12_runCommands 0 = true by decide +kernel) (by rw [← erm]; rfl) hl.1 rfl (lv_room (Nat.le_of_ble_eq_true rfl)) dL_law_489 ⟨by rw [← erm]; exact Nat.le_of_ble_eq_true rfl, by rw [← erm]; exact Nat.le_of_ble_eq_true rfl⟩ (fun H locs hP hD hS => ?_)
  refine lv_bipush (v := 7) hx hb dL_law_492 (by decide) ?_
  refine lv_icmp_ne (tgt := 710) hx hb dL_law_494 (by decide) (fun cc => absurd rfl cc) (fun _ => ?_)
  refine lv_aload hx hb dL_law_497 (lv_at hl 0 rfl) ?_
  refine lv_iconst (v := 0) hx hb dL_law_499 (by decide) ?_
  refine ocT (t9 := t2) (mc := 1) (ms := 6) B hp9 hP hD hS (kX12_balance l hl9 D cA ad hr h0 _ 2000 0 t2 (0, 600) (zr13 hV)) qco_X12_balance qml_L_241 qin_X12_balance qse_X12_balance qini_X12 (show xCd yX12_balance 1 = true by decide +kernel) (by rw [← erm]; rfl) hl.1 rfl (lv_room (Nat.le_of_ble_eq_true rfl)) dL_law_500 ⟨by rw [← erm]; exact Nat.le_of_ble_eq_true rfl, by rw [← erm]; exact Nat.le_of_ble_eq_true rfl⟩ (fun H locs hP hD hS => ?_)
  refine lv_ldc2 hx hb B.1.2.2.2.1 (B.1.2.2.2.2 _ qcl_L_262) dL_law_503 ?_
  refine W.lcmp hx hb dL_law_506 ?_
  refine lv_if_ne (tgt := 710) hx hb dL_law_507 (by decide) (fun cc => absurd (lg_same _) cc) (fun _ => ?_)
  refine lv_aload hx hb dL_law_510 (lv_at hl 0 rfl) ?_
  refine lv_iconst (v := 1) hx hb dL_law_512 (by decide) ?_
  refine ocT (t9 := t2) (mc := 1) (ms := 6) B hp9 hP hD hS (kX12_balance l hl9 D cA ad hr h0 _ 2000 1 t2 (0, 60) (zr14 hV)) qco_X12_balance qml_L_241 qin_X12_balance qse_X12_balance qini_X12 (show xCd yX12_balance 1 = true by decide +kernel) (by rw [← erm]; rfl) hl.1 rfl (lv_room (Nat.le_of_ble_eq_true rfl)) dL_law_513 ⟨by rw [← erm]; exact Nat.le_of_ble_eq_true rfl, by rw [← erm]; exact Nat.le_of_ble_eq_true rfl⟩ (fun H locs hP hD hS => ?_)
  refine lv_ldc2 hx hb B.1.2.2.2.1 (B.1.2.2.2.2 _ qcl_L_264) dL_law_516 ?_
  refine W.lcmp hx hb dL_law_519 ?_
  refine lv_if_ne (tgt := 710) hx hb dL_law_520 (by decide) (fun cc => absurd (lg_same _) cc) (fun _ => ?_)
  refine lv_aload hx hb dL_law_523 (lv_at hl 0 rfl) ?_
  refine lv_iconst (v := 2) hx hb dL_law_525 (by decide) ?_
  refine ocT (t9 := t2) (mc := 1) (ms := 6) B hp9 hP hD hS (kX12_balance l hl9 D cA ad hr h0 _ 2000 2 t2 (0, 50) (zr15 hV)) qco_X12_balance qml_L_241 qin_X12_balance qse_X12_balance qini_X12 (show xCd yX12_balance 1 = true by decide +kernel) (by rw [← erm]; rfl) hl.1 rfl (lv_room (Nat.le_of_ble_eq_true rfl)) dL_law_526 ⟨by rw [← erm]; exact Nat.le_of_ble_eq_true rfl, by rw [← erm]; exact Nat.le_of_ble_eq_true rfl⟩ (fun H locs hP hD hS => ?_)
  refine lv_ldc2 hx hb B.1.2.2.2.1 (B.1.2.2.2.2 _ qcl_L_266) dL_law_529 ?_
  refine W.lcmp hx hb dL_law_532 ?_
  refine lv_if_ne (tgt := 710) hx hb dL_law_533 (by decide) (fun cc => absurd (lg_same _) cc) (fun _ => ?_)
  refine lv_aload hx hb dL_law_536 (lv_at hl 0 rfl) ?_
  refine lv_iconst (v := 4) hx hb dL_law_538 (by decide) ?_
  refine ocT (t9 := t2) (mc := 1) (ms := 6) B hp9 hP hD hS (kX12_balance l hl9 D cA ad hr h0 _ 2000 4 t2 (0, 340) (zr16 hV)) qco_X12_balance qml_L_241 qin_X12_balance qse_X12_balance qini_X12 (show xCd yX12_balance 1 = true by decide +kernel) (by rw [← erm]; rfl) hl.1 rfl (lv_room (Nat.le_of_ble_eq_true rfl)) dL_law_539 ⟨by rw [← erm]; exact Nat.le_of_ble_eq_true rfl, by rw [← erm]; exact Nat.le_of_ble_eq_true rfl⟩ (fun H locs hP hD hS => ?_)
  refine lv_ldc2 hx hb B.1.2.2.2.1 (B.1.2.2.2.2 _ qcl_L_268) dL_law_542 ?_
  refine W.lcmp hx hb dL_law_545 ?_
  refine lv_if_ne (tgt := 710) hx hb dL_law_546 (by decide) (fun cc => absurd (lg_same _) cc) (fun _ => ?_)
  refine lv_aload hx hb dL_law_549 (lv_at hl 0 rfl) ?_
  refine lv_iconst (v := 5) hx hb dL_law_551 (by decide) ?_
  refine ocT (t9 := t2) (mc := 1) (ms := 6) B hp9 hP hD hS (kX12_balance l hl9 D cA ad hr h0 _ 2000 5 t2 (0, 130) (zr17 hV)) qco_X12_balance qml_L_241 qin_X12_balance qse_X12_balance qini_X12 (show xCd yX12_balance 1 = true by decide +kernel) (by rw [← erm]; rfl) hl.1 rfl (lv_room (Nat.le_of_ble_eq_true rfl)) dL_law_552 ⟨by rw [← erm]; exact Nat.le_of_ble_eq_true rfl, by rw [← erm]; exact Nat.le_of_ble_eq_true rfl⟩ (fun H locs hP hD hS => ?_)
  refine lv_ldc2 hx hb B.1.2.2.2.1 (B.1.2.2.2.2 _ qcl_L_270) dL_law_555 ?_
  refine W.lcmp hx hb dL_law_558 ?_
  refine lv_if_ne (tgt := 710) hx hb dL_law_559 (by decide) (fun cc => absurd (lg_same _) cc) (fun _ => ?_)
  refine lv_aload hx hb dL_law_562 (lv_at hl 0 rfl) ?_
  refine ocTz (t9 := t2) B hp9 hP hD hS (kX12_profit l D cA ad hr h0 _ 2000  t2 210 (zr18 hV)) qco_X12_profit qml_L_257 qin_X12_profit qse_X12_profit qini_X12 (show xCd yX12_profit 0 = true by decide +kernel) (by rw [← erm]; rfl) hl.1 rfl (lv_room (Nat.le_of_ble_eq_true rfl)) dL_law_564 ⟨by rw [← erm]; exact Nat.le_of_ble_eq_true rfl, by rw [← erm]; exact Nat.le_of_ble_eq_true rfl⟩ (fun H locs hP hD hS => ?_)
  refine lv_ldc2 hx hb B.1.2.2.2.1 (B.1.2.2.2.2 _ qcl_L_272) dL_law_567 ?_
  refine W.lcmp hx hb dL_law_570 ?_
  refine lv_if_ne (tgt := 710) hx hb dL_law_571 (by decide) (fun cc => absurd (lg_same _) cc) (fun _ => ?_)
  refine lv_aload hx hb dL_law_574 (lv_at hl 0 rfl) ?_
  refine ocTz (t9 := t2) B hp9 hP hD hS (kX12_sumOfDebits l D cA ad hr h0 _ 2000  t2 1210 (zr19 hV)) qco_X12_sumOfDebits qml_L_246 qin_X12_sumOfDebits qse_X12_sumOfDebits qini_X12 (show xCd yX12_sumOfDebits 0 = true by decide +kernel) (by rw [← erm]; rfl) hl.1 rfl (lv_room (Nat.le_of_ble_eq_true rfl)) dL_law_576 ⟨by rw [← erm]; exact Nat.le_of_ble_eq_true rfl, by rw [← erm]; exact Nat.le_of_ble_eq_true rfl⟩ (fun H locs hP hD hS => ?_)
  refine lv_ldc2 hx hb B.1.2.2.2.1 (B.1.2.2.2.2 _ qcl_L_274) dL_law_579 ?_
  refine W.lcmp hx hb dL_law_582 ?_
  refine lv_if_ne (tgt := 710) hx hb dL_law_583 (by decide) (fun cc => absurd (lg_same _) cc) (fun _ => ?_)
  refine lv_aload hx hb dL_law_586 (lv_at hl 0 rfl) ?_
  refine ocTz (t9 := t2) B hp9 hP hD hS (kX12_sumOfCredits l D cA ad hr h0 _ 2000  t2 1210 (zr20 hV)) qco_X12_sumOfCredits qml_L_276 qin_X12_sumOfCredits qse_X12_sumOfCredits qini_X12 (show xCd yX12_sumOfCredits 0 = true by decide +kernel) (by rw [← erm]; rfl) hl.1 rfl (lv_room (Nat.le_of_ble_eq_true rfl)) dL_law_588 ⟨by rw [← erm]; exact Nat.le_of_ble_eq_true rfl, by rw [← erm]; exact Nat.le_of_ble_eq_true rfl⟩ (fun H locs hP hD hS => ?_)
  refine lv_ldc2 hx hb B.1.2.2.2.1 (B.1.2.2.2.2 _ qcl_L_274) dL_law_591 ?_
  refine W.lcmp hx hb dL_law_594 ?_
  refine lv_if_ne (tgt := 710) hx hb dL_law_595 (by decide) (fun cc => absurd (lg_same _) cc) (fun _ => ?_)
  refine lv_aload hx hb dL_law_598 (lv_at hl 0 rfl) ?_
  refine ocTz (t9 := t2) B hp9 hP hD hS (kX12_entryCount l D cA ad hr h0 _ 2000  t2 8 (zr21 hV)) qco_X12_entryCount qml_L_42 qin_X12_entryCount qse_X12_entryCount qini_X12 (show xCd yX12_entryCount 0 = true by decide +kernel) (by rw [← erm]; rfl) hl.1 rfl (lv_room (Nat.le_of_ble_eq_true rfl)) dL_law_600 ⟨by rw [← erm]; exact Nat.le_of_ble_eq_true rfl, by rw [← erm]; exact Nat.le_of_ble_eq_true rfl⟩ (fun H locs hP hD hS => ?_)
  refine lv_bipush (v := 8) hx hb dL_law_603 (by decide) ?_
  refine lv_icmp_ne (tgt := 710) hx hb dL_law_605 (by decide) (fun cc => absurd rfl cc) (fun _ => ?_)
  refine lv_aload hx hb dL_law_608 (lv_at hl 0 rfl) ?_
  refine lv_iconst (v := 2) hx hb dL_law_610 (by decide) ?_
  refine ocT (t9 := t2) (mc := 1) (ms := 6) B hp9 hP hD hS (kX12_amountOf l hl9 D cA ad hr h0 _ 2000 2 t2 (0, 240) (zr22 hV)) qco_X12_amountOf qml_L_157 qin_X12_amountOf qse_X12_amountOf qini_X12 (show xCd yX12_amountOf 1 = true by decide +kernel) (by rw [← erm]; rfl) hl.1 rfl (lv_room (Nat.le_of_ble_eq_true rfl)) dL_law_611 ⟨by rw [← erm]; exact Nat.le_of_ble_eq_true rfl, by rw [← erm]; exact Nat.le_of_ble_eq_true rfl⟩ (fun H locs hP hD hS => ?_)
  refine lv_ldc2 hx hb B.1.2.2.2.1 (B.1.2.2.2.2 _ qcl_L_279) dL_law_614 ?_
  refine W.lcmp hx hb dL_law_617 ?_
  refine lv_if_ne (tgt := 710) hx hb dL_law_618 (by decide) (fun cc => absurd (lg_same _) cc) (fun _ => ?_)
  refine lv_aload hx hb dL_law_621 (lv_at hl 0 rfl) ?_
  refine lv_iconst (v := 3) hx hb dL_law_623 (by decide) ?_
  refine ocT (t9 := t2) (mc := 1) (ms := 6) B hp9 hP hD hS (kX12_amountOf l hl9 D cA ad hr h0 _ 2000 3 t2 (0, 130) (zr23 hV)) qco_X12_amountOf qml_L_157 qin_X12_amountOf qse_X12_amountOf qini_X12 (show xCd yX12_amountOf 1 = true by decide +kernel) (by rw [← erm]; rfl) hl.1 rfl (lv_room (Nat.le_of_ble_eq_true rfl)) dL_law_624 ⟨by rw [← erm]; exact Nat.le_of_ble_eq_true rfl, by rw [← erm]; exact Nat.le_of_ble_eq_true rfl⟩ (fun H locs hP hD hS => ?_)
  refine lv_ldc2 hx hb B.1.2.2.2.1 (B.1.2.2.2.2 _ qcl_L_270) dL_law_627 ?_
  refine W.lcmp hx hb dL_law_630 ?_
  refine lv_if_ne (tgt := 710) hx hb dL_law_631 (by decide) (fun cc => absurd (lg_same _) cc) (fun _ => ?_)
  refine lv_aload hx hb dL_law_634 (lv_at hl 0 rfl) ?_
  refine ocTz (t9 := t2) B hp9 hP hD hS (kX12_lotCount l D cA ad hr h0 _ 2000  t2 1 (zr24 hV)) qco_X12_lotCount qml_L_141 qin_X12_lotCount qse_X12_lotCount qini_X12 (show xCd yX12_lotCount 0 = true by decide +kernel) (by rw [← erm]; rfl) hl.1 rfl (lv_room (Nat.le_of_ble_eq_true rfl)) dL_law_636 ⟨by rw [← erm]; exact Nat.le_of_ble_eq_true rfl, by rw [← erm]; exact Nat.le_of_ble_eq_true rfl⟩ (fun H locs hP hD hS => ?_)
  refine lv_iconst (v := 1) hx hb dL_law_639 (by decide) ?_
  refine lv_icmp_ne (tgt := 710) hx hb dL_law_640 (by decide) (fun cc => absurd rfl cc) (fun _ => ?_)
  refine lv_aload hx hb dL_law_643 (lv_at hl 0 rfl) ?_
  refine lv_iconst (v := 2) hx hb dL_law_645 (by decide) ?_
  refine ocT (t9 := t2) (mc := 1) (ms := 6) B hp9 hP hD hS (kX12_costOf l hl9 D cA ad hr h0 _ 2000 2 t2 (0, 60) (zr25 hV)) qco_X12_costOf qml_L_103 qin_X12_costOf qse_X12_costOf qini_X12 (show xCd yX12_costOf 1 = true by decide +kernel) (by rw [← erm]; rfl) hl.1 rfl (lv_room (Nat.le_of_ble_eq_true rfl)) dL_law_646 ⟨by rw [← erm]; exact Nat.le_of_ble_eq_true rfl, by rw [← erm]; exact Nat.le_of_ble_eq_true rfl⟩ (fun H locs hP hD hS => ?_)
  refine lv_bipush (v := 60) hx hb dL_law_649 (by decide) ?_
  refine lv_icmp_ne (tgt := 710) hx hb dL_law_651 (by decide) (fun cc => absurd rfl cc) (fun _ => ?_)
  refine lv_aload hx hb dL_law_654 (lv_at hl 0 rfl) ?_
  refine lv_iconst (v := 2) hx hb dL_law_656 (by decide) ?_
  refine ocT (t9 := t2) (mc := 1) (ms := 6) B hp9 hP hD hS (kX12_costByCostumes l hl9 D cA ad hr h0 _ 2000 2 t2 (0, 60) (zr26 hV)) qco_X12_costByCostumes qml_L_106 qin_X12_costByCostumes qse_X12_costByCostumes qini_X12 (show xCd yX12_costByCostumes 1 = true by decide +kernel) (by rw [← erm]; rfl) hl.1 rfl (lv_room (Nat.le_of_ble_eq_true rfl)) dL_law_657 ⟨by rw [← erm]; exact Nat.le_of_ble_eq_true rfl, by rw [← erm]; exact Nat.le_of_ble_eq_true rfl⟩ (fun H locs hP hD hS => ?_)
  refine lv_bipush (v := 60) hx hb dL_law_660 (by decide) ?_
  refine lv_icmp_ne (tgt := 710) hx hb dL_law_662 (by decide) (fun cc => absurd rfl cc) (fun _ => ?_)
  refine lv_aload hx hb dL_law_665 (lv_at hl 0 rfl) ?_
  refine lv_bipush (v := 14) hx hb dL_law_667 (by decide) ?_
  refine lv_iconst (v := 3) hx hb dL_law_669 (by decide) ?_
  refine lv_iconst (v := 0) hx hb dL_law_670 (by decide) ?_
  refine ocLW (F := fun u => u) (mc := 1) (ms := 6) B hp9 hP hD hS (l_act14 l hl9 D cA ad an tt hr h0 _ _ 3 0 t2 r2 zA1 hV) qcw_L_act qml_L_33 qst_L_act qini_L (show xCd yL_act 4 = true by decide +kernel) (by rw [← erm]; rfl) hl.1 rfl (lv_room (Nat.le_of_ble_eq_true rfl)) dL_law_671 ⟨by rw [← erm]; exact Nat.le_of_ble_eq_true rfl, by rw [← erm]; exact Nat.le_of_ble_eq_true rfl⟩ (fun u3 hV9 H locs hP hD hS => ?_)
  rw [zf27]
  have hV := hV9
  refine lv_ldc hx hb B.1.2.2.2.1 (B.1.2.2.2.2 _ qci_L_68) dL_law_674 ?_
  refine lv_icmp_ne (tgt := 710) hx hb dL_law_676 (by decide) (fun cc => absurd rfl cc) (fun _ => ?_)
  refine lv_aload hx hb dL_law_679 (lv_at hl 0 rfl) ?_
  refine ocT (t9 := u3.1) (mc := 1) (ms := 6) B hp9 hP hD hS (kX12_meanPrice l hl9 D cA ad hr h0 _ 2000  u3.1 (0, 4629137466983448576) (zr28 hV)) qco_X12_meanPrice qml_L_281 qin_X12_meanPrice qse_X12_meanPrice qini_X12 (show xCd yX12_meanPrice 0 = true by decide +kernel) (by rw [← erm]; rfl) hl.1 rfl (lv_room (Nat.le_of_ble_eq_true rfl)) dL_law_681 ⟨by rw [← erm]; exact Nat.le_of_ble_eq_true rfl, by rw [← erm]; exact Nat.le_of_ble_eq_true rfl⟩ (fun H locs hP hD hS => ?_)
  refine lv_ldc2d hx hb B.1.2.2.2.1 (B.1.2.2.2.2 _ qcd_L_285) dL_law_684 ?_
  refine lv_dcmp hx hb dL_law_687 ?_
  refine lv_if_ne (tgt := 710) hx hb dL_law_688 (by decide) (fun cc => absurd (by decide +kernel) cc) (fun _ => ?_)
  refine lv_aload hx hb dL_law_691 (lv_at hl 0 rfl) ?_
  refine ocTz (t9 := u3.1) B hp9 hP hD hS (kX12_billCount l D cA ad hr h0 _ 2000  u3.1 2 (zr29 hV)) qco_X12_billCount qml_L_172 qin_X12_billCount qse_X12_billCount qini_X12 (show xCd yX12_billCount 0 = true by decide +kernel) (by rw [← erm]; rfl) hl.1 rfl (lv_room (Nat.le_of_ble_eq_true rfl)) dL_law_693 ⟨by rw [← erm]; exact Nat.le_of_ble_eq_true rfl, by rw [← erm]; exact Nat.le_of_ble_eq_true rfl⟩ (fun H locs hP hD hS => ?_)
  refine lv_iconst (v := 2) hx hb dL_law_696 (by decide) ?_
  refine lv_icmp_ne (tgt := 710) hx hb dL_law_697 (by decide) (fun cc => absurd rfl cc) (fun _ => ?_)
  refine lv_aload hx hb dL_law_700 (lv_at hl 0 rfl) ?_
  refine ocTz (t9 := u3.1) B hp9 hP hD hS (kX12_openTotal l D cA ad hr h0 _ 2000  u3.1 50 (zr30 hV)) qco_X12_openTotal qml_L_287 qin_X12_openTotal qse_X12_openTotal qini_X12 (show xCd yX12_openTotal 0 = true by decide +kernel) (by rw [← erm]; rfl) hl.1 rfl (lv_room (Nat.le_of_ble_eq_true rfl)) dL_law_702 ⟨by rw [← erm]; exact Nat.le_of_ble_eq_true rfl, by rw [← erm]; exact Nat.le_of_ble_eq_true rfl⟩ (fun H locs hP hD hS => ?_)
  refine lv_bipush (v := 50) hx hb dL_law_705 (by decide) ?_
  refine lv_icmp_eq (tgt := 712) hx hb dL_law_707 (by decide) (fun _ => ?_) (fun cc => absurd rfl cc)
  refine W.widen (k := 240000) (n := 2400000) (Nat.le_of_ble_eq_true rfl) (Nat.le_of_ble_eq_true rfl) ?_
  exact kk u3.1 u3.2 hV H locs hP hD hS ls hl
set_option maxRecDepth 100000 in
set_option maxHeartbeats 4000000 in
theorem lz_2 (hn9 : n < 9) (hn0 : 0 < n) (hp9 : P9.length = 572) (hl9 : l.stackTraces = false) (B : lB p l s m [.ref b] c meth cL_law 7 (some .boolean) D cA ad an tt A) (erm : RLw = rm) (hV : V 13 t r zA1) (hP : va_P D vwCl (P9 ++ (TR cA ad hr h0 t r ++ [])) H) (hD : va_D A (P9 ++ (TR cA ad hr h0 t r ++ []))) (hS : va_S A s.heap H locs) (hl : lv_has ls 7 [(6, .ref (h0 0)), (5, .int (iI (n : Int))), (4, .int v4), (3, .int v3), (2, .ref a2), (1, .ref a1), (0, .ref b)]) (kk : ∀ (t : ThlS) (r : Nat → BooS), V 15 t r zA2 → ∀ (H : Heap) (locs : List Loc), va_P D vwCl (P9 ++ (TR cA ad hr h0 t r ++ [])) H → va_D A (P9 ++ (TR cA ad hr h0 t r ++ [])) → va_S A s.heap H locs → ∀ ls : Array Slot, lv_has ls 7 [(6, .ref (h0 0)), (5, .int (iI (n : Int))), (4, .int v4), (3, .int v3), (2, .ref a2), (1, .ref a1), (0, .ref b)] → W p l e rm s m ([.ref b] : List Value).toArray below meth c H locs 260000 2600000 Q (F0 m 855 ls [])) : W p l e rm s m ([.ref b] : List Value).toArray below meth c H locs 240000 2400000 Q (F0 m 712 ls []) := by
  have hx := B.1.1
  have hb := B.1.2.1
  refine lv_aload hx hb dL_law_712 (lv_at hl 0 rfl) ?_
  refine lv_bipush (v := 50) hx hb dL_law_714 (by decide) ?_
  obtain ⟨u1, q⟩ := (zr31 hV)
  refine ocT (t9 := (Thls3 t u1)) (mc := 1) (ms := 6) B hp9 hP hD hS (kX12_isMatched l hl9 D cA ad hr h0 _ 2000 50 t (0, 1, (Thls3 t u1)) q) qco_X12_isMatched qml_L_290 qin_X12_isMatched qse_X12_isMatched qini_X12 (show xCd yX12_isMatched 1 = true by decide +kernel) (by rw [← erm]; rfl) hl.1 rfl (lv_room (Nat.le_of_ble_eq_true rfl)) dL_law_716 ⟨by rw [← erm]; exact Nat.le_of_ble_eq_true rfl, by rw [← erm]; exact Nat.le_of_ble_eq_true rfl⟩ (fun H locs hP hD hS => ?_)
  have hV := V.mat hV u1
  refine lv_if_eq (tgt := 853) hx hb dL_law_719 (by decide) (fun cc => absurd cc one_ne) (fun _ => ?_)
  refine lv_aload hx hb dL_law_722 (lv_at hl 0 rfl) ?_
  refine lv_bipush (v := 50) hx hb dL_law_724 (by decide) ?_
  obtain ⟨u2, q⟩ := (zr32 hV)
  refine ocT (t9 := (Thls3 (Thls3 t u1) u2)) (mc := 1) (ms := 6) B hp9 hP hD hS (kX12_isMatchedBySets l hl9 D cA ad hr h0 _ 2000 50 (Thls3 t u1) (0, 1, (Thls3 (Thls3 t u1) u2)) q) qco_X12_isMatchedBySets qml_L_293 qin_X12_isMatchedBySets qse_X12_isMatchedBySets qini_X12 (show xCd yX12_isMatchedBySets 1 = true by decide +kernel) (by rw [← erm]; rfl) hl.1 rfl (lv_room (Nat.le_of_ble_eq_true rfl)) dL_law_726 ⟨by rw [← erm]; exact Nat.le_of_ble_eq_true rfl, by rw [← erm]; exact Nat.le_of_ble_eq_true rfl⟩ (fun H locs hP hD hS => ?_)
  have hV := V.mat hV u2
  refine lv_if_eq (tgt := 853) hx hb dL_law_729 (by decide) (fun cc => absurd cc one_ne) (fun _ => ?_)
  refine lv_aload hx hb dL_law_732 (lv_at hl 0 rfl) ?_
  refine lv_bipush (v := 50) hx hb dL_law_734 (by decide) ?_
  obtain ⟨u3, q⟩ := (zr33 hV)
  refine ocT (t9 := (Thls3 (Thls3 (Thls3 t u1) u2) u3)) (mc := 2) (ms := 12) B hp9 hP hD hS (kX12_matchSize l hl9 D cA ad hr h0 _ 2000 50 (Thls3 (Thls3 t u1) u2) (0, 2, (Thls3 (Thls3 (Thls3 t u1) u2) u3)) q) qco_X12_matchSize qml_L_109 qin_X12_matchSize qse_X12_matchSize qini_X12 (show xCd yX12_matchSize 1 = true by decide +kernel) (by rw [← erm]; rfl) hl.1 rfl (lv_room (Nat.le_of_ble_eq_true rfl)) dL_law_736 ⟨by rw [← erm]; exact Nat.le_of_ble_eq_true rfl, by rw [← erm]; exact Nat.le_of_ble_eq_true rfl⟩ (fun H locs hP hD hS => ?_)
  have hV := V.mat hV u3
  refine lv_iconst (v := 2) hx hb dL_law_739 (by decide) ?_
  refine lv_icmp_ne (tgt := 853) hx hb dL_law_740 (by decide) (fun cc => absurd rfl cc) (fun _ => ?_)
  refine lv_aload hx hb dL_law_743 (lv_at hl 0 rfl) ?_
  refine lv_iconst (v := 0) hx hb dL_law_745 (by decide) ?_
  refine lv_bipush (v := 50) hx hb dL_law_746 (by decide) ?_
  obtain ⟨u4, q⟩ := (zr34 hV)
  refine ocT (t9 := (Thls3 (Thls3 (Thls3 (Thls3 t u1) u2) u3) u4)) (mc := 3) (ms := 18) B hp9 hP hD hS (kX12_isInMatch l hl9 D cA ad hr h0 _ 2000 0 50 (Thls3 (Thls3 (Thls3 t u1) u2) u3) (0, 1, (Thls3 (Thls3 (Thls3 (Thls3 t u1) u2) u3) u4)) q) qco_X12_isInMatch qml_L_112 qin_X12_isInMatch qse_X12_isInMatch qini_X12 (show xCd yX12_isInMatch 2 = true by decide +kernel) (by rw [← erm]; rfl) hl.1 rfl (lv_room (Nat.le_of_ble_eq_true rfl)) dL_law_748 ⟨by rw [← erm]; exact Nat.le_of_ble_eq_true rfl, by rw [← erm]; exact Nat.le_of_ble_eq_true rfl⟩ (fun H locs hP hD hS => ?_)
  have hV := V.mat hV u4
  refine lv_if_eq (tgt := 853) hx hb dL_law_751 (by decide) (fun cc => absurd cc one_ne) (fun _ => ?_)
  refine lv_aload hx hb dL_law_754 (lv_at hl 0 rfl) ?_
  refine lv_iconst (v := 0) hx hb dL_law_756 (by decide) ?_
  refine lv_bipush (v := 20) hx hb dL_law_757 (by decide) ?_
  obtain ⟨u5, q⟩ := (zr35 hV)
  refine ocT (t9 := (Thls3 (Thls3 (Thls3 (Thls3 (Thls3 t u1) u2) u3) u4) u5)) (mc := 3) (ms := 18) B hp9 hP hD hS (kX12_isInMatch l hl9 D cA ad hr h0 _ 2000 0 20 (Thls3 (Thls3 (Thls3 (Thls3 t u1) u2) u3) u4) (0, 0, (Thls3 (Thls3 (Thls3 (Thls3 (Thls3 t u1) u2) u3) u4) u5)) q) qco_X12_isInMatch qml_L_112 qin_X12_isInMatch qse_X12_isInMatch qini_X12 (show xCd yX12_isInMatch 2 = true by decide +kernel) (by rw [← erm]; rfl) hl.1 rfl (lv_room (Nat.le_of_ble_eq_true rfl)) dL_law_759 ⟨by rw [← erm]; exact Nat.le_of_ble_eq_true rfl, by rw [← erm]; exact Nat.le_of_ble_eq_true rfl⟩ (fun H locs hP hD hS => ?_)
  have hV := V.mat hV u5
  refine lv_if_ne (tgt := 853) hx hb dL_law_762 (by decide) (fun cc => absurd rfl cc) (fun _ => ?_)
  refine lv_aload hx hb dL_law_765 (lv_at hl 0 rfl) ?_
  refine lv_bipush (v := 16) hx hb dL_law_767 (by decide) ?_
  refine lv_iconst (v := 2) hx hb dL_law_769 (by decide) ?_
  refine lv_bipush (v := 20) hx hb dL_law_770 (by decide) ?_
  refine ocLW (F := fun u => u) (mc := 3) (ms := 18) B hp9 hP hD hS (l_act16 l hl9 D cA ad an tt hr h0 _ _ 2 20 (Thls3 (Thls3 (Thls3 (Thls3 (Thls3 t u1) u2) u3) u4) u5) r zA1 hV (by decide) zg36) qcw_L_act qml_L_33 qst_L_act qini_L (show xCd yL_act 4 = true by decide +kernel) (by rw [← erm]; rfl) hl.1 rfl (lv_room (Nat.le_of_ble_eq_true rfl)) dL_law_772 ⟨by rw [← erm]; exact Nat.le_of_ble_eq_true rfl, by rw [← erm]; exact Nat.le_of_ble_eq_true rfl⟩ (fun u6 hV9 H locs hP hD hS => ?_)
  rw [zf36]
  have hV := hV9
  refine lv_ldc hx hb B.1.2.2.2.1 (B.1.2.2.2.2 _ qci_L_131) dL_law_775 ?_
  refine lv_icmp_ne (tgt := 853) hx hb dL_law_777 (by decide) (fun cc => absurd rfl cc) (fun _ => ?_)
  refine lv_aload hx hb dL_law_780 (lv_at hl 0 rfl) ?_
  refine lv_bipush (v := 40) hx hb dL_law_782 (by decide) ?_
  obtain ⟨u7, q⟩ := (zr37 hV)
  refine ocT (t9 := (Thls3 u6.1 u7)) (mc := 1) (ms := 6) B hp9 hP hD hS (kX12_isMatched l hl9 D cA ad hr h0 _ 2000 40 u6.1 (0, 0, (Thls3 u6.1 u7)) q) qco_X12_isMatched qml_L_290 qin_X12_isMatched qse_X12_isMatched qini_X12 (show xCd yX12_isMatched 1 = true by decide +kernel) (by rw [← erm]; rfl) hl.1 rfl (lv_room (Nat.le_of_ble_eq_true rfl)) dL_law_784 ⟨by rw [← erm]; exact Nat.le_of_ble_eq_true rfl, by rw [← erm]; exact Nat.le_of_ble_eq_true rfl⟩ (fun H locs hP hD hS => ?_)
  have hV := V.mat hV u7
  refine lv_if_ne (tgt := 853) hx hb dL_law_787 (by decide) (fun cc => absurd rfl cc) (fun _ => ?_)
  refine lv_aload hx hb dL_law_790 (lv_at hl 0 rfl) ?_
  refine lv_bipush (v := 40) hx hb dL_law_792 (by decide) ?_
  obtain ⟨t8, r8, q, hV⟩ := (zr38 hV (by omega))
  refine ocR (t9 := t8) (r9 := r8) (mc := 1) (ms := 6) B hp9 hP hD hS (kX12_pay l hl9 D cA ad hr h0 _ 2000 40 (Thls3 u6.1 u7) u6.2 (0, 1, t8, r8) q) qco_X12_pay qml_L_94 qin_X12_pay qse_X12_pay qini_X12 (show xCd yX12_pay 1 = true by decide +kernel) (by rw [← erm]; rfl) hl.1 rfl (lv_room (Nat.le_of_ble_eq_true rfl)) dL_law_794 ⟨by rw [← erm]; exact Nat.le_of_ble_eq_true rfl, by rw [← erm]; exact Nat.le_of_ble_eq_true rfl⟩ (fun H locs hP hD hS => ?_)
  refine lv_iconst (v := 1) hx hb dL_law_797 (by decide) ?_
  refine lv_icmp_ne (tgt := 853) hx hb dL_law_798 (by decide) (fun cc => absurd rfl cc) (fun _ => ?_)
  refine lv_aload hx hb dL_law_801 (lv_at hl 0 rfl) ?_
  refine lv_iconst (v := 1) hx hb dL_law_803 (by decide) ?_
  refine ocT (t9 := t8) (mc := 1) (ms := 6) B hp9 hP hD hS (kX12_openAmount l hl9 D cA ad hr h0 _ 2000 1 t8 (0, 10) (zr39 hV)) qco_X12_openAmount qml_L_116 qin_X12_openAmount qse_X12_openAmount qini_X12 (show xCd yX12_openAmount 1 = true by decide +kernel) (by rw [← erm]; rfl) hl.1 rfl (lv_room (Nat.le_of_ble_eq_true rfl)) dL_law_804 ⟨by rw [← erm]; exact Nat.le_of_ble_eq_true rfl, by rw [← erm]; exact Nat.le_of_ble_eq_true rfl⟩ (fun H locs hP hD hS => ?_)
  refine lv_bipush (v := 10) hx hb dL_law_807 (by decide) ?_
  refine lv_icmp_ne (tgt := 853) hx hb dL_law_809 (by decide) (fun cc => absurd rfl cc) (fun _ => ?_)
  refine lv_aload hx hb dL_law_812 (lv_at hl 0 rfl) ?_
  refine lv_bipush (v := 17) hx hb dL_law_814 (by decide) ?_
  refine lv_iconst (v := 0) hx hb dL_law_816 (by decide) ?_
  refine lv_iconst (v := 0) hx hb dL_law_817 (by decide) ?_
  refine ocLW (F := fun u => u) (mc := 1) (ms := 6) B hp9 hP hD hS (l_act17 l hl9 D cA ad an tt hr h0 _ _ 0 0 t8 r8 zA2 hV) qcw_L_act qml_L_33 qst_L_act qini_L (show xCd yL_act 4 = true by decide +kernel) (by rw [← erm]; rfl) hl.1 rfl (lv_room (Nat.le_of_ble_eq_true rfl)) dL_law_818 ⟨by rw [← erm]; exact Nat.le_of_ble_eq_true rfl, by rw [← erm]; exact Nat.le_of_ble_eq_true rfl⟩ (fun u9 hV9 H locs hP hD hS => ?_)
  rw [zf40]
  have hV := hV9
  refine lv_ldc hx hb B.1.2.2.2.1 (B.1.2.2.2.2 _ qci_L_131) dL_law_821 ?_
  refine lv_icmp_ne (tgt := 853) hx hb dL_law_823 (by decide) (fun cc => absurd rfl cc) (fun _ => ?_)
  refine lv_aload hx hb dL_law_826 (lv_at hl 0 rfl) ?_
  refine ocT (t9 := u9.1) (mc := 1) (ms := 6) B hp9 hP hD hS (kX12_claimShare l hl9 D cA ad hr h0 _ 2000  u9.1 (0, 1013367476) (zr41 hV)) qco_X12_claimShare qml_L_253 qin_X12_claimShare qse_X12_claimShare qini_X12 (show xCd yX12_claimShare 0 = true by decide +kernel) (by rw [← erm]; rfl) hl.1 rfl (lv_room (Nat.le_of_ble_eq_true rfl)) dL_law_828 ⟨by rw [← erm]; exact Nat.le_of_ble_eq_true rfl, by rw [← erm]; exact Nat.le_of_ble_eq_true rfl⟩ (fun H locs hP hD hS => ?_)
  refine lv_ldcwF hx hb B.1.2.2.2.1 (B.1.2.2.2.2 _ qcf_L_296) dL_law_831 ?_
  refine lv_fcmp hx hb dL_law_834 ?_
  refine lv_if_ne (tgt := 853) hx hb dL_law_835 (by decide) (fun cc => absurd (by decide +kernel) cc) (fun _ => ?_)
  refine lv_aload hx hb dL_law_838 (lv_at hl 0 rfl) ?_
  refine lv_bipush (v := 10) hx hb dL_law_840 (by decide) ?_
  refine lv_bipush (v := 11) hx hb dL_law_842 (by decide) ?_
  refine lv_iconst (v := 0) hx hb dL_law_844 (by decide) ?_
  refine ocLW (F := fun u => u) (mc := 1) (ms := 6) B hp9 hP hD hS (l_act10 l hl9 D cA ad an tt hr h0 _ _ 11 0 u9.1 u9.2 zA2 hV (by omega)) qcw_L_act qml_L_33 qst_L_act qini_L (show xCd yL_act 4 = true by decide +kernel) (by rw [← erm]; rfl) hl.1 rfl (lv_room (Nat.le_of_ble_eq_true rfl)) dL_law_845 ⟨by rw [← erm]; exact Nat.le_of_ble_eq_true rfl, by rw [← erm]; exact Nat.le_of_ble_eq_true rfl⟩ (fun u10 hV9 H locs hP hD hS => ?_)
  rw [zf42.1]
  rw [lO_no _ zf42.2] at hV9
  have hV := hV9
  refine lv_ldc hx hb B.1.2.2.2.1 (B.1.2.2.2.2 _ qci_L_68) dL_law_848 ?_
  refine lv_icmp_eq (tgt := 855) hx hb dL_law_850 (by decide) (fun _ => ?_) (fun cc => absurd rfl cc)
  refine W.widen (k := 260000) (n := 2600000) (Nat.le_of_ble_eq_true rfl) (Nat.le_of_ble_eq_true rfl) ?_
  exact kk u10.1 u10.2 hV H locs hP hD hS ls hl
set_option maxRecDepth 100000 in
set_option maxHeartbeats 4000000 in
theorem lz_3 (hn9 : n < 9) (hn0 : 0 < n) (hp9 : P9.length = 572) (hl9 : l.stackTraces = false) (B : lB p l s m [.ref b] c meth cL_law 7 (some .boolean) D cA ad an tt A) (erm : RLw = rm) (hV : V 15 t r zA2) (hP : va_P D vwCl (P9 ++ (TR cA ad hr h0 t r ++ [])) H) (hD : va_D A (P9 ++ (TR cA ad hr h0 t r ++ []))) (hS : va_S A s.heap H locs) (hl : lv_has ls 7 [(6, .ref (h0 0)), (5, .int (iI (n : Int))), (4, .int v4), (3, .int v3), (2, .ref a2), (1, .ref a1), (0, .ref b)]) (kk : ∀ (t : ThlS) (r : Nat → BooS), V 18 t r zA5 → ∀ (H : Heap) (locs : List Loc), va_P D vwCl (P9 ++ (TR cA ad hr h0 t r ++ [])) H → va_D A (P9 ++ (TR cA ad hr h0 t r ++ [])) → va_S A s.heap H locs → ∀ ls : Array Slot, lv_has ls 7 [(6, .ref (h0 0)), (5, .int (iI (n : Int))), (4, .int v4), (3, .int v3), (2, .ref a2), (1, .ref a1), (0, .ref b)] → W p l e rm s m ([.ref b] : List Value).toArray below meth c H locs 280000 2800000 Q (F0 m 979 ls [])) : W p l e rm s m ([.ref b] : List Value).toArray below meth c H locs 260000 2600000 Q (F0 m 855 ls []) := by
  have hx := B.1.1
  have hb := B.1.2.1
  refine lv_aload hx hb dL_law_855 (lv_at hl 0 rfl) ?_
  refine lv_bipush (v := 7) hx hb dL_law_857 (by decide) ?_
  obtain ⟨t1, r1, q, hV⟩ := (zr43 hV (by omega))
  refine ocR (t9 := t1) (r9 := r1) (mc := 1) (ms := 6) B hp9 hP hD hS (kX12_reverse l hl9 D cA ad hr h0 _ 2000 7 t r (0, 9, t1, r1) q) qco_X12_reverse qml_L_75 qin_X12_reverse qse_X12_reverse qini_X12 (show xCd yX12_reverse 1 = true by decide +kernel) (by rw [← erm]; rfl) hl.1 rfl (lv_room (Nat.le_of_ble_eq_true rfl)) dL_law_859 ⟨by rw [← erm]; exact Nat.le_of_ble_eq_true rfl, by rw [← erm]; exact Nat.le_of_ble_eq_true rfl⟩ (fun H locs hP hD hS => ?_)
  refine lv_bipush (v := 9) hx hb dL_law_862 (by decide) ?_
  refine lv_icmp_ne (tgt := 977) hx hb dL_law_864 (by decide) (fun cc => absurd rfl cc) (fun _ => ?_)
  refine lv_aload hx hb dL_law_867 (lv_at hl 0 rfl) ?_
  refine lv_bipush (v := 7) hx hb dL_law_869 (by decide) ?_
  refine ocT (t9 := t1) (mc := 1) (ms := 6) B hp9 hP hD hS (kX12_isReversed l hl9 D cA ad hr h0 _ 2000 7 t1 (0, 1) (zr44 hV)) qco_X12_isReversed qml_L_122 qin_X12_isReversed qse_X12_isReversed qini_X12 (show xCd yX12_isReversed 1 = true by decide +kernel) (by rw [← erm]; rfl) hl.1 rfl (lv_room (Nat.le_of_ble_eq_true rfl)) dL_law_871 ⟨by rw [← erm]; exact Nat.le_of_ble_eq_true rfl, by rw [← erm]; exact Nat.le_of_ble_eq_true rfl⟩ (fun H locs hP hD hS => ?_)
  refine lv_if_eq (tgt := 977) hx hb dL_law_874 (by decide) (fun cc => absurd cc one_ne) (fun _ => ?_)
  refine lv_aload hx hb dL_law_877 (lv_at hl 0 rfl) ?_
  refine lv_iconst (v := 3) hx hb dL_law_879 (by decide) ?_
  refine lv_bipush (v := 7) hx hb dL_law_880 (by decide) ?_
  refine lv_iconst (v := 0) hx hb dL_law_882 (by decide) ?_
  refine ocLW (F := fun u => u) (mc := 1) (ms := 6) B hp9 hP hD hS (l_act3 l hl9 D cA ad an tt hr h0 _ _ 7 0 t1 r1 zA3 hV (by omega)) qcw_L_act qml_L_33 qst_L_act qini_L (show xCd yL_act 4 = true by decide +kernel) (by rw [← erm]; rfl) hl.1 rfl (lv_room (Nat.le_of_ble_eq_true rfl)) dL_law_883 ⟨by rw [← erm]; exact Nat.le_of_ble_eq_true rfl, by rw [← erm]; exact Nat.le_of_ble_eq_true rfl⟩ (fun u2 hV9 H locs hP hD hS => ?_)
  rw [zf45.1]
  rw [lO_no _ zf45.2] at hV9
  have hV := hV9
  refine lv_ldc hx hb B.1.2.2.2.1 (B.1.2.2.2.2 _ qci_L_68) dL_law_886 ?_
  refine lv_icmp_ne (tgt := 977) hx hb dL_law_888 (by decide) (fun cc => absurd rfl cc) (fun _ => ?_)
  refine lv_aload hx hb dL_law_891 (lv_at hl 0 rfl) ?_
  refine lv_iconst (v := 3) hx hb dL_law_893 (by decide) ?_
  refine lv_bipush (v := 9) hx hb dL_law_894 (by decide) ?_
  refine lv_iconst (v := 0) hx hb dL_law_896 (by decide) ?_
  refine ocLW (F := fun u => u) (mc := 1) (ms := 6) B hp9 hP hD hS (l_act3 l hl9 D cA ad an tt hr h0 _ _ 9 0 u2.1 u2.2 zA3 hV (by omega)) qcw_L_act qml_L_33 qst_L_act qini_L (show xCd yL_act 4 = true by decide +kernel) (by rw [← erm]; rfl) hl.1 rfl (lv_room (Nat.le_of_ble_eq_true rfl)) dL_law_897 ⟨by rw [← erm]; exact Nat.le_of_ble_eq_true rfl, by rw [← erm]; exact Nat.le_of_ble_eq_true rfl⟩ (fun u3 hV9 H locs hP hD hS => ?_)
  rw [zf46.1]
  rw [lO_no _ zf46.2] at hV9
  have hV := hV9
  refine lv_ldc hx hb B.1.2.2.2.1 (B.1.2.2.2.2 _ qci_L_68) dL_law_900 ?_
  refine lv_icmp_ne (tgt := 977) hx hb dL_law_902 (by decide) (fun cc => absurd rfl cc) (fun _ => ?_)
  refine lv_aload hx hb dL_law_905 (lv_at hl 0 rfl) ?_
  refine lv_iconst (v := 0) hx hb dL_law_907 (by decide) ?_
  refine ocT (t9 := u3.1) (mc := 1) (ms := 6) B hp9 hP hD hS (kX12_balance l hl9 D cA ad hr h0 _ 2000 0 u3.1 (0, 590) (zr47 hV)) qco_X12_balance qml_L_241 qin_X12_balance qse_X12_balance qini_X12 (show xCd yX12_balance 1 = true by decide +kernel) (by rw [← erm]; rfl) hl.1 rfl (lv_room (Nat.le_of_ble_eq_true rfl)) dL_law_908 ⟨by rw [← erm]; exact Nat.le_of_ble_eq_true rfl, by rw [← erm]; exact Nat.le_of_ble_eq_true rfl⟩ (fun H locs hP hD hS => ?_)
  refine lv_ldc2 hx hb B.1.2.2.2.1 (B.1.2.2.2.2 _ qcl_L_297) dL_law_911 ?_
  refine W.lcmp hx hb dL_law_914 ?_
  refine lv_if_ne (tgt := 977) hx hb dL_law_915 (by decide) (fun cc => absurd (lg_same _) cc) (fun _ => ?_)
  refine lv_aload hx hb dL_law_918 (lv_at hl 0 rfl) ?_
  refine lv_iconst (v := 2) hx hb dL_law_920 (by decide) ?_
  refine ocT (t9 := u3.1) (mc := 1) (ms := 6) B hp9 hP hD hS (kX12_balance l hl9 D cA ad hr h0 _ 2000 2 u3.1 (0, 60) (zr48 hV)) qco_X12_balance qml_L_241 qin_X12_balance qse_X12_balance qini_X12 (show xCd yX12_balance 1 = true by decide +kernel) (by rw [← erm]; rfl) hl.1 rfl (lv_room (Nat.le_of_ble_eq_true rfl)) dL_law_921 ⟨by rw [← erm]; exact Nat.le_of_ble_eq_true rfl, by rw [← erm]; exact Nat.le_of_ble_eq_true rfl⟩ (fun H locs hP hD hS => ?_)
  refine lv_ldc2 hx hb B.1.2.2.2.1 (B.1.2.2.2.2 _ qcl_L_264) dL_law_924 ?_
  refine W.lcmp hx hb dL_law_927 ?_
  refine lv_if_ne (tgt := 977) hx hb dL_law_928 (by decide) (fun cc => absurd (lg_same _) cc) (fun _ => ?_)
  refine lv_aload hx hb dL_law_931 (lv_at hl 0 rfl) ?_
  refine ocTz (t9 := u3.1) B hp9 hP hD hS (kX12_openTotal l D cA ad hr h0 _ 2000  u3.1 10 (zr49 hV)) qco_X12_openTotal qml_L_287 qin_X12_openTotal qse_X12_openTotal qini_X12 (show xCd yX12_openTotal 0 = true by decide +kernel) (by rw [← erm]; rfl) hl.1 rfl (lv_room (Nat.le_of_ble_eq_true rfl)) dL_law_933 ⟨by rw [← erm]; exact Nat.le_of_ble_eq_true rfl, by rw [← erm]; exact Nat.le_of_ble_eq_true rfl⟩ (fun H locs hP hD hS => ?_)
  refine lv_bipush (v := 10) hx hb dL_law_936 (by decide) ?_
  refine lv_icmp_ne (tgt := 977) hx hb dL_law_938 (by decide) (fun cc => absurd rfl cc) (fun _ => ?_)
  refine lv_aload hx hb dL_law_941 (lv_at hl 0 rfl) ?_
  refine lv_aload hx hb dL_law_943 (lv_at hl 0 rfl) ?_
  refine lv_bipush (v := 7) hx hb dL_law_945 (by decide) ?_
  obtain ⟨t4, q, hV⟩ := (zr50 hV)
  refine ocT (t9 := t4) (mc := 1) (ms := 6) B hp9 hP hD hS (kX12_writeEntry l hl9 D cA ad hr h0 _ 2000 7 u3.1 (0, (iI ((txI 16).length : Int)), t4) q) qco_X12_writeEntry qml_L_299 qin_X12_writeEntry qse_X12_writeEntry qini_X12 (show xCd yX12_writeEntry 1 = true by decide +kernel) (by rw [← erm]; rfl) hl.1 rfl (lv_room (Nat.le_of_ble_eq_true rfl)) dL_law_947 ⟨by rw [← erm]; exact Nat.le_of_ble_eq_true rfl, by rw [← erm]; exact Nat.le_of_ble_eq_true rfl⟩ (fun H locs hP hD hS => ?_)
  refine lv_ldcwS hx hb B.1.2.2.2.1 (B.2.2.2.2.2.1.2.2 16 (by decide)) dL_law_950 ?_
  refine ocL (F := fun u => u) (mc := 60) (ms := 360) B hp9 hP hD hS (l_isOutput l hl9 D cA ad an tt hr h0 _ _ 16 (by decide) t4 u3.2 zA4 hV zr50_o) qco_L_isOutput qml_L_304 qst_L_isOutput qini_L (show xCd yL_isOutput 3 = true by decide +kernel) (by rw [← erm]; rfl) hl.1 rfl (lv_room (Nat.le_of_ble_eq_true rfl)) dL_law_953 ⟨by rw [← erm]; exact Nat.le_of_ble_eq_true rfl, by rw [← erm]; exact Nat.le_of_ble_eq_true rfl⟩ (fun u5 hV9 H locs hP hD hS => ?_)
  have hV := hV9
  refine lv_if_eq (tgt := 977) hx hb dL_law_956 (by decide) (fun cc => absurd cc one_ne) (fun _ => ?_)
  refine lv_aload hx hb dL_law_959 (lv_at hl 0 rfl) ?_
  refine lv_aload hx hb dL_law_961 (lv_at hl 0 rfl) ?_
  refine lv_bipush (v := 9) hx hb dL_law_963 (by decide) ?_
  obtain ⟨t6, q, hV⟩ := (zr51 hV)
  refine ocT (t9 := t6) (mc := 1) (ms := 6) B hp9 hP hD hS (kX12_writeEntry l hl9 D cA ad hr h0 _ 2000 9 u5.1 (0, (iI ((txI 17).length : Int)), t6) q) qco_X12_writeEntry qml_L_299 qin_X12_writeEntry qse_X12_writeEntry qini_X12 (show xCd yX12_writeEntry 1 = true by decide +kernel) (by rw [← erm]; rfl) hl.1 rfl (lv_room (Nat.le_of_ble_eq_true rfl)) dL_law_965 ⟨by rw [← erm]; exact Nat.le_of_ble_eq_true rfl, by rw [← erm]; exact Nat.le_of_ble_eq_true rfl⟩ (fun H locs hP hD hS => ?_)
  refine lv_ldcwS hx hb B.1.2.2.2.1 (B.2.2.2.2.2.1.2.2 17 (by decide)) dL_law_968 ?_
  refine ocL (F := fun u => u) (mc := 60) (ms := 360) B hp9 hP hD hS (l_isOutput l hl9 D cA ad an tt hr h0 _ _ 17 (by decide) t6 u5.2 zA5 hV zr51_o) qco_L_isOutput qml_L_304 qst_L_isOutput qini_L (show xCd yL_isOutput 3 = true by decide +kernel) (by rw [← erm]; rfl) hl.1 rfl (lv_room (Nat.le_of_ble_eq_true rfl)) dL_law_971 ⟨by rw [← erm]; exact Nat.le_of_ble_eq_true rfl, by rw [← erm]; exact Nat.le_of_ble_eq_true rfl⟩ (fun u7 hV9 H locs hP hD hS => ?_)
  have hV := hV9
  refine lv_if_ne (tgt := 979) hx hb dL_law_974 (by decide) (fun _ => ?_) (fun cc => absurd cc one_ne)
  refine W.widen (k := 280000) (n := 2800000) (Nat.le_of_ble_eq_true rfl) (Nat.le_of_ble_eq_true rfl) ?_
  exact kk u7.1 u7.2 hV H locs hP hD hS ls hl
set_option maxRecDepth 100000 in
set_option maxHeartbeats 4000000 in
theorem lz_4 (hn9 : n < 9) (hn0 : 0 < n) (hp9 : P9.length = 572) (hl9 : l.stackTraces = false) (B : lB p l s m [.ref b] c meth cL_law 7 (some .boolean) D cA ad an tt A) (erm : RLw = rm) (hV : V 18 t r zA5) (hP : va_P D vwCl (P9 ++ (TR cA ad hr h0 t r ++ [])) H) (hD : va_D A (P9 ++ (TR cA ad hr h0 t r ++ []))) (hS : va_S A s.heap H locs) (hl : lv_has ls 7 [(6, .ref (h0 0)), (5, .int (iI (n : Int))), (4, .int v4), (3, .int v3), (2, .ref a2), (1, .ref a1), (0, .ref b)]) (kk : ∀ (t : ThlS) (r : Nat → BooS), V 22 t r (zA8 n) → ∀ (H : Heap) (locs : List Loc), va_P D vwCl (P9 ++ (TR cA ad hr h0 t r ++ [])) H → va_D A (P9 ++ (TR cA ad hr h0 t r ++ [])) → va_S A s.heap H locs → ∀ ls : Array Slot, lv_has ls 7 [(6, .ref (h0 0)), (5, .int (iI (n : Int))), (4, .int v4), (3, .int v3), (2, .ref a2), (1, .ref a1), (0, .ref b)] → W p l e rm s m ([.ref b] : List Value).toArray below meth c H locs 300000 3000000 Q (F0 m 1153 ls [])) : W p l e rm s m ([.ref b] : List Value).toArray below meth c H locs 280000 2800000 Q (F0 m 979 ls []) := by
  have hx := B.1.1
  have hb := B.1.2.1
  refine lv_aload hx hb dL_law_979 (lv_at hl 0 rfl) ?_
  refine lv_iconst (v := 5) hx hb dL_law_981 (by decide) ?_
  refine lv_iconst (v := 0) hx hb dL_law_982 (by decide) ?_
  refine lv_iload hx hb dL_law_983 (lv_at hl 1 rfl) ?_
  refine lv_iconst (v := 2) hx hb dL_law_985 (by decide) ?_
  refine lv_iconst (v := 2) hx hb dL_law_986 (by decide) ?_
  obtain ⟨t1, r1, q, hV⟩ := (zr52 hn9 hn0 hV (by omega))
  refine ocR (t9 := t1) (r9 := r1) (mc := 2) (ms := 12) B hp9 hP hD hS (kX12_prompt l hl9 D cA ad hr h0 _ 2000 5 0 (iI (n : Int)) 2 2 t r (0, 0, t1, r1) q) qco_X12_prompt qml_L_63 qin_X12_prompt qse_X12_prompt qini_X12 (show xCd yX12_prompt 5 = true by decide +kernel) (by rw [← erm]; rfl) hl.1 rfl (lv_room (Nat.le_of_ble_eq_true rfl)) dL_law_987 ⟨by rw [← erm]; exact Nat.le_of_ble_eq_true rfl, by rw [← erm]; exact Nat.le_of_ble_eq_true rfl⟩ (fun H locs hP hD hS => ?_)
  refine lv_if_ne (tgt := 1151) hx hb dL_law_990 (by decide) (fun cc => absurd rfl cc) (fun _ => ?_)
  refine lv_aload hx hb dL_law_993 (lv_at hl 0 rfl) ?_
  refine lv_iconst (v := 0) hx hb dL_law_995 (by decide) ?_
  refine ocT (t9 := t1) (mc := 1) (ms := 6) B hp9 hP hD hS (kX12_hoursUntilPrompt l hl9 D cA ad hr h0 _ 2000 0 t1 (0, 2) (zr53 hn9 hn0 hV)) qco_X12_hoursUntilPrompt qml_L_166 qin_X12_hoursUntilPrompt qse_X12_hoursUntilPrompt qini_X12 (show xCd yX12_hoursUntilPrompt 1 = true by decide +kernel) (by rw [← erm]; rfl) hl.1 rfl (lv_room (Nat.le_of_ble_eq_true rfl)) dL_law_996 ⟨by rw [← erm]; exact Nat.le_of_ble_eq_true rfl, by rw [← erm]; exact Nat.le_of_ble_eq_true rfl⟩ (fun H locs hP hD hS => ?_)
  refine lv_iconst (v := 2) hx hb dL_law_999 (by decide) ?_
  refine lv_icmp_ne (tgt := 1151) hx hb dL_law_1000 (by decide) (fun cc => absurd rfl cc) (fun _ => ?_)
  refine lv_aload hx hb dL_law_1003 (lv_at hl 0 rfl) ?_
  refine lv_iconst (v := 1) hx hb dL_law_1005 (by decide) ?_
  refine ocT (t9 := t1) (mc := 1) (ms := 6) B hp9 hP hD hS (kX12_cashIn l hl9 D cA ad hr h0 _ 2000 1 t1 (0, 590) (zr54 hn9 hn0 hV)) qco_X12_cashIn qml_L_310 qin_X12_cashIn qse_X12_cashIn qini_X12 (show xCd yX12_cashIn 1 = true by decide +kernel) (by rw [← erm]; rfl) hl.1 rfl (lv_room (Nat.le_of_ble_eq_true rfl)) dL_law_1006 ⟨by rw [← erm]; exact Nat.le_of_ble_eq_true rfl, by rw [← erm]; exact Nat.le_of_ble_eq_true rfl⟩ (fun H locs hP hD hS => ?_)
  refine lv_ldc2 hx hb B.1.2.2.2.1 (B.1.2.2.2.2 _ qcl_L_297) dL_law_1009 ?_
  refine W.lcmp hx hb dL_law_1012 ?_
  refine lv_if_ne (tgt := 1151) hx hb dL_law_1013 (by decide) (fun cc => absurd (lg_same _) cc) (fun _ => ?_)
  refine lv_aload hx hb dL_law_1016 (lv_at hl 0 rfl) ?_
  refine lv_iconst (v := 2) hx hb dL_law_1018 (by decide) ?_
  refine ocT (t9 := t1) (mc := 1) (ms := 6) B hp9 hP hD hS (kX12_cashIn l hl9 D cA ad hr h0 _ 2000 2 t1 (0, 590 - (iI (n : Int)).toInt64) (zr55 hn9 hn0 hV)) qco_X12_cashIn qml_L_310 qin_X12_cashIn qse_X12_cashIn qini_X12 (show xCd yX12_cashIn 1 = true by decide +kernel) (by rw [← erm]; rfl) hl.1 rfl (lv_room (Nat.le_of_ble_eq_true rfl)) dL_law_1019 ⟨by rw [← erm]; exact Nat.le_of_ble_eq_true rfl, by rw [← erm]; exact Nat.le_of_ble_eq_true rfl⟩ (fun H locs hP hD hS => ?_)
  refine lv_ldc2 hx hb B.1.2.2.2.1 (B.1.2.2.2.2 _ qcl_L_297) dL_law_1022 ?_
  refine lv_iload hx hb dL_law_1025 (lv_at hl 1 rfl) ?_
  refine lv_i2l (v := (iI (n : Int)).toInt64) hx hb dL_law_1027 rfl ?_
  refine lv_lsub hx hb dL_law_1028 ?_
  refine W.lcmp hx hb dL_law_1029 ?_
  refine lv_if_ne (tgt := 1151) hx hb dL_law_1030 (by decide) (fun cc => absurd (lg_same _) cc) (fun _ => ?_)
  refine lv_aload hx hb dL_law_1033 (lv_at hl 0 rfl) ?_
  refine lv_bipush (v := 24) hx hb dL_law_1035 (by decide) ?_
  refine ocT (t9 := t1) (mc := 1) (ms := 6) B hp9 hP hD hS (kX12_cashIn l hl9 D cA ad hr h0 _ 2000 24 t1 (0, 590 - (2 * (iI (n : Int))).toInt64) (zr56 hn9 hn0 hV)) qco_X12_cashIn qml_L_310 qin_X12_cashIn qse_X12_cashIn qini_X12 (show xCd yX12_cashIn 1 = true by decide +kernel) (by rw [← erm]; rfl) hl.1 rfl (lv_room (Nat.le_of_ble_eq_true rfl)) dL_law_1037 ⟨by rw [← erm]; exact Nat.le_of_ble_eq_true rfl, by rw [← erm]; exact Nat.le_of_ble_eq_true rfl⟩ (fun H locs hP hD hS => ?_)
  refine lv_ldc2 hx hb B.1.2.2.2.1 (B.1.2.2.2.2 _ qcl_L_297) dL_law_1040 ?_
  refine lv_iconst (v := 2) hx hb dL_law_1043 (by decide) ?_
  refine lv_iload hx hb dL_law_1044 (lv_at hl 1 rfl) ?_
  refine lv_imul hx hb dL_law_1046 ?_
  refine lv_i2l (v := (2 * (iI (n : Int))).toInt64) hx hb dL_law_1047 rfl ?_
  refine lv_lsub hx hb dL_law_1048 ?_
  refine W.lcmp hx hb dL_law_1049 ?_
  refine lv_if_ne (tgt := 1151) hx hb dL_law_1050 (by decide) (fun cc => absurd (lg_same _) cc) (fun _ => ?_)
  refine lv_aload hx hb dL_law_1053 (lv_at hl 0 rfl) ?_
  refine lv_iconst (v := 3) hx hb dL_law_1055 (by decide) ?_
  obtain ⟨t2, r2, q, hV⟩ := (zr57 hn9 hn0 hV (by omega))
  refine ocR (t9 := t2) (r9 := r2) (mc := 1) (ms := 6) B hp9 hP hD hS (kX12_passHours l hl9 D cA ad hr h0 _ 2000 3 t1 r1 (0, 1, t2, r2) q) qco_X12_passHours qml_L_81 qin_X12_passHours qse_X12_passHours qini_X12 (show xCd yX12_passHours 1 = true by decide +kernel) (by rw [← erm]; rfl) hl.1 rfl (lv_room (Nat.le_of_ble_eq_true rfl)) dL_law_1056 ⟨by rw [← erm]; exact Nat.le_of_ble_eq_true rfl, by rw [← erm]; exact Nat.le_of_ble_eq_true rfl⟩ (fun H locs hP hD hS => ?_)
  refine lv_iconst (v := 1) hx hb dL_law_1059 (by decide) ?_
  refine lv_icmp_ne (tgt := 1151) hx hb dL_law_1060 (by decide) (fun cc => absurd rfl cc) (fun _ => ?_)
  refine lv_aload hx hb dL_law_1063 (lv_at hl 0 rfl) ?_
  refine lv_iconst (v := 0) hx hb dL_law_1065 (by decide) ?_
  refine ocT (t9 := t2) (mc := 1) (ms := 6) B hp9 hP hD hS (kX12_balance l hl9 D cA ad hr h0 _ 2000 0 t2 (0, 590 - (iI (n : Int)).toInt64) (zr58 hn9 hn0 hV)) qco_X12_balance qml_L_241 qin_X12_balance qse_X12_balance qini_X12 (show xCd yX12_balance 1 = true by decide +kernel) (by rw [← erm]; rfl) hl.1 rfl (lv_room (Nat.le_of_ble_eq_true rfl)) dL_law_1066 ⟨by rw [← erm]; exact Nat.le_of_ble_eq_true rfl, by rw [← erm]; exact Nat.le_of_ble_eq_true rfl⟩ (fun H locs hP hD hS => ?_)
  refine lv_ldc2 hx hb B.1.2.2.2.1 (B.1.2.2.2.2 _ qcl_L_297) dL_law_1069 ?_
  refine lv_iload hx hb dL_law_1072 (lv_at hl 1 rfl) ?_
  refine lv_i2l (v := (iI (n : Int)).toInt64) hx hb dL_law_1074 rfl ?_
  refine lv_lsub hx hb dL_law_1075 ?_
  refine W.lcmp hx hb dL_law_1076 ?_
  refine lv_if_ne (tgt := 1151) hx hb dL_law_1077 (by decide) (fun cc => absurd (lg_same _) cc) (fun _ => ?_)
  refine lv_aload hx hb dL_law_1080 (lv_at hl 0 rfl) ?_
  refine lv_iconst (v := 0) hx hb dL_law_1082 (by decide) ?_
  refine ocT (t9 := t2) (mc := 1) (ms := 6) B hp9 hP hD hS (kX12_hoursUntilPrompt l hl9 D cA ad hr h0 _ 2000 0 t2 (0, 1) (zr59 hn9 hn0 hV)) qco_X12_hoursUntilPrompt qml_L_166 qin_X12_hoursUntilPrompt qse_X12_hoursUntilPrompt qini_X12 (show xCd yX12_hoursUntilPrompt 1 = true by decide +kernel) (by rw [← erm]; rfl) hl.1 rfl (lv_room (Nat.le_of_ble_eq_true rfl)) dL_law_1083 ⟨by rw [← erm]; exact Nat.le_of_ble_eq_true rfl, by rw [← erm]; exact Nat.le_of_ble_eq_true rfl⟩ (fun H locs hP hD hS => ?_)
  refine lv_iconst (v := 1) hx hb dL_law_1086 (by decide) ?_
  refine lv_icmp_ne (tgt := 1151) hx hb dL_law_1087 (by decide) (fun cc => absurd rfl cc) (fun _ => ?_)
  refine lv_aload hx hb dL_law_1090 (lv_at hl 0 rfl) ?_
  refine lv_iconst (v := 0) hx hb dL_law_1092 (by decide) ?_
  refine ocT (t9 := t2) (mc := 1) (ms := 6) B hp9 hP hD hS (kX12_timesLeft l hl9 D cA ad hr h0 _ 2000 0 t2 (0, 1) (zr60 hn9 hn0 hV)) qco_X12_timesLeft qml_L_169 qin_X12_timesLeft qse_X12_timesLeft qini_X12 (show xCd yX12_timesLeft 1 = true by decide +kernel) (by rw [← erm]; rfl) hl.1 rfl (lv_room (Nat.le_of_ble_eq_true rfl)) dL_law_1093 ⟨by rw [← erm]; exact Nat.le_of_ble_eq_true rfl, by rw [← erm]; exact Nat.le_of_ble_eq_true rfl⟩ (fun H locs hP hD hS => ?_)
  refine lv_iconst (v := 1) hx hb dL_law_1096 (by decide) ?_
  refine lv_icmp_ne (tgt := 1151) hx hb dL_law_1097 (by decide) (fun cc => absurd rfl cc) (fun _ => ?_)
  refine lv_aload hx hb dL_law_1100 (lv_at hl 0 rfl) ?_
  refine lv_iconst (v := 1) hx hb dL_law_1102 (by decide) ?_
  obtain ⟨t3, r3, q, hV⟩ := (zr61 hn9 hn0 hV (by omega))
  refine ocR (t9 := t3) (r9 := r3) (mc := 1) (ms := 6) B hp9 hP hD hS (kX12_passHours l hl9 D cA ad hr h0 _ 2000 1 t2 r2 (0, 1, t3, r3) q) qco_X12_passHours qml_L_81 qin_X12_passHours qse_X12_passHours qini_X12 (show xCd yX12_passHours 1 = true by decide +kernel) (by rw [← erm]; rfl) hl.1 rfl (lv_room (Nat.le_of_ble_eq_true rfl)) dL_law_1103 ⟨by rw [← erm]; exact Nat.le_of_ble_eq_true rfl, by rw [← erm]; exact Nat.le_of_ble_eq_true rfl⟩ (fun H locs hP hD hS => ?_)
  refine lv_iconst (v := 1) hx hb dL_law_1106 (by decide) ?_
  refine lv_icmp_ne (tgt := 1151) hx hb dL_law_1107 (by decide) (fun cc => absurd rfl cc) (fun _ => ?_)
  refine lv_aload hx hb dL_law_1110 (lv_at hl 0 rfl) ?_
  refine ocTz (t9 := t3) B hp9 hP hD hS (kX12_promptCount l D cA ad hr h0 _ 2000  t3 0 (zr62 hn9 hn0 hV)) qco_X12_promptCount qml_L_163 qin_X12_promptCount qse_X12_promptCount qini_X12 (show xCd yX12_promptCount 0 = true by decide +kernel) (by rw [← erm]; rfl) hl.1 rfl (lv_room (Nat.le_of_ble_eq_true rfl)) dL_law_1112 ⟨by rw [← erm]; exact Nat.le_of_ble_eq_true rfl, by rw [← erm]; exact Nat.le_of_ble_eq_true rfl⟩ (fun H locs hP hD hS => ?_)
  refine lv_if_ne (tgt := 1151) hx hb dL_law_1115 (by decide) (fun cc => absurd rfl cc) (fun _ => ?_)
  refine lv_aload hx hb dL_law_1118 (lv_at hl 0 rfl) ?_
  refine ocTz (t9 := t3) B hp9 hP hD hS (kX12_hour l D cA ad hr h0 _ 2000  t3 4 (zr63 hn9 hn0 hV)) qco_X12_hour qml_L_132 qin_X12_hour qse_X12_hour qini_X12 (show xCd yX12_hour 0 = true by decide +kernel) (by rw [← erm]; rfl) hl.1 rfl (lv_room (Nat.le_of_ble_eq_true rfl)) dL_law_1120 ⟨by rw [← erm]; exact Nat.le_of_ble_eq_true rfl, by rw [← erm]; exact Nat.le_of_ble_eq_true rfl⟩ (fun H locs hP hD hS => ?_)
  refine lv_iconst (v := 4) hx hb dL_law_1123 (by decide) ?_
  refine lv_icmp_ne (tgt := 1151) hx hb dL_law_1124 (by decide) (fun cc => absurd rfl cc) (fun _ => ?_)
  refine lv_aload hx hb dL_law_1127 (lv_at hl 0 rfl) ?_
  refine lv_bipush (v := 11) hx hb dL_law_1129 (by decide) ?_
  refine ocT (t9 := t3) (mc := 1) (ms := 6) B hp9 hP hD hS (kX12_hourOf l hl9 D cA ad hr h0 _ 2000 11 t3 (0, 4) (zr64 hn9 hn0 hV)) qco_X12_hourOf qml_L_160 qin_X12_hourOf qse_X12_hourOf qini_X12 (show xCd yX12_hourOf 1 = true by decide +kernel) (by rw [← erm]; rfl) hl.1 rfl (lv_room (Nat.le_of_ble_eq_true rfl)) dL_law_1131 ⟨by rw [← erm]; exact Nat.le_of_ble_eq_true rfl, by rw [← erm]; exact Nat.le_of_ble_eq_true rfl⟩ (fun H locs hP hD hS => ?_)
  refine lv_iconst (v := 4) hx hb dL_law_1134 (by decide) ?_
  refine lv_icmp_ne (tgt := 1151) hx hb dL_law_1135 (by decide) (fun cc => absurd rfl cc) (fun _ => ?_)
  refine lv_aload hx hb dL_law_1138 (lv_at hl 0 rfl) ?_
  refine lv_iconst (v := 5) hx hb dL_law_1140 (by decide) ?_
  refine lv_iconst (v := 0) hx hb dL_law_1141 (by decide) ?_
  refine lv_iconst (v := 0) hx hb dL_law_1142 (by decide) ?_
  refine ocLW (F := fun u => u) (mc := 1) (ms := 6) B hp9 hP hD hS (l_act5 l hl9 D cA ad an tt hr h0 _ _ 0 0 t3 r3 (zA8 n) hV (by omega)) qcw_L_act qml_L_33 qst_L_act qini_L (show xCd yL_act 4 = true by decide +kernel) (by rw [← erm]; rfl) hl.1 rfl (lv_room (Nat.le_of_ble_eq_true rfl)) dL_law_1143 ⟨by rw [← erm]; exact Nat.le_of_ble_eq_true rfl, by rw [← erm]; exact Nat.le_of_ble_eq_true rfl⟩ (fun u4 hV9 H locs hP hD hS => ?_)
  rw [(zf65 n hn9 hn0).1]
  rw [lO_no _ (zf65 n hn9 hn0).2] at hV9
  have hV := hV9
  refine lv_ldc hx hb B.1.2.2.2.1 (B.1.2.2.2.2 _ qci_L_59) dL_law_1146 ?_
  refine lv_icmp_eq (tgt := 1153) hx hb dL_law_1148 (by decide) (fun _ => ?_) (fun cc => absurd rfl cc)
  refine W.widen (k := 300000) (n := 3000000) (Nat.le_of_ble_eq_true rfl) (Nat.le_of_ble_eq_true rfl) ?_
  exact kk u4.1 u4.2 hV H locs hP hD hS ls hl
set_option maxRecDepth 100000 in
set_option maxHeartbeats 4000000 in
theorem lz_5 (hn9 : n < 9) (hn0 : 0 < n) (hp9 : P9.length = 572) (hl9 : l.stackTraces = false) (B : lB p l s m [.ref b] c meth cL_law 7 (some .boolean) D cA ad an tt A) (erm : RLw = rm) (hV : V 22 t r (zA8 n)) (hP : va_P D vwCl (P9 ++ (TR cA ad hr h0 t r ++ [])) H) (hD : va_D A (P9 ++ (TR cA ad hr h0 t r ++ []))) (hS : va_S A s.heap H locs) (hl : lv_has ls 7 [(6, .ref (h0 0)), (5, .int (iI (n : Int))), (4, .int v4), (3, .int v3), (2, .ref a2), (1, .ref a1), (0, .ref b)]) (kk : ∀ (t : ThlS) (r : Nat → BooS), V 24 t r (zA10 n) → ∀ (H : Heap) (locs : List Loc), va_P D vwCl (P9 ++ (TR cA ad hr h0 t r ++ [])) H → va_D A (P9 ++ (TR cA ad hr h0 t r ++ [])) → va_S A s.heap H locs → ∀ ls : Array Slot, lv_has ls 7 [(6, .ref (h0 0)), (5, .int (iI (n : Int))), (4, .int v4), (3, .int v3), (2, .ref a2), (1, .ref a1), (0, .ref b)] → W p l e rm s m ([.ref b] : List Value).toArray below meth c H locs 320000 3200000 Q (F0 m 1267 ls [])) : W p l e rm s m ([.ref b] : List Value).toArray below meth c H locs 300000 3000000 Q (F0 m 1153 ls []) := by
  have hx := B.1.1
  have hb := B.1.2.1
  refine lv_aload hx hb dL_law_1153 (lv_at hl 0 rfl) ?_
  obtain ⟨t1, r1, q, hV⟩ := (zrcur hn9 hn0 hV (by omega))
  refine ocRz (t9 := t1) (r9 := r1) B hp9 hP hD hS (kX12_curtain l D cA ad hr h0 _ 2000  t r (210 - 2 * (iI (n : Int)), t1, r1) q) qco_X12_curtain qml_L_97 qin_X12_curtain qse_X12_curtain qini_X12 (show xCd yX12_curtain 0 = true by decide +kernel) (by rw [← erm]; rfl) hl.1 rfl (lv_room (Nat.le_of_ble_eq_true rfl)) dL_law_1155 ⟨by rw [← erm]; exact Nat.le_of_ble_eq_true rfl, by rw [← erm]; exact Nat.le_of_ble_eq_true rfl⟩ (fun H locs hP hD hS => ?_)
  refine lv_sipush (v := 210) hx hb dL_law_1158 (by decide) ?_
  refine lv_iconst (v := 2) hx hb dL_law_1161 (by decide) ?_
  refine lv_iload hx hb dL_law_1162 (lv_at hl 1 rfl) ?_
  refine lv_imul hx hb dL_law_1164 ?_
  refine lv_isub hx hb dL_law_1165 ?_
  refine lv_icmp_ne (tgt := 1265) hx hb dL_law_1166 (by decide) (fun cc => absurd rfl cc) (fun _ => ?_)
  refine lv_aload hx hb dL_law_1169 (lv_at hl 0 rfl) ?_
  refine ocTz (t9 := t1) B hp9 hP hD hS (kX12_profit l D cA ad hr h0 _ 2000  t1 0 (zr66 hn9 hn0 hV)) qco_X12_profit qml_L_257 qin_X12_profit qse_X12_profit qini_X12 (show xCd yX12_profit 0 = true by decide +kernel) (by rw [← erm]; rfl) hl.1 rfl (lv_room (Nat.le_of_ble_eq_true rfl)) dL_law_1171 ⟨by rw [← erm]; exact Nat.le_of_ble_eq_true rfl, by rw [← erm]; exact Nat.le_of_ble_eq_true rfl⟩ (fun H locs hP hD hS => ?_)
  refine lv_lconst (v := 0) hx hb dL_law_1174 (by decide) ?_
  refine W.lcmp hx hb dL_law_1175 ?_
  refine lv_if_ne (tgt := 1265) hx hb dL_law_1176 (by decide) (fun cc => absurd (lg_same _) cc) (fun _ => ?_)
  refine lv_aload hx hb dL_law_1179 (lv_at hl 0 rfl) ?_
  refine lv_iconst (v := 3) hx hb dL_law_1181 (by decide) ?_
  refine ocT (t9 := t1) (mc := 1) (ms := 6) B hp9 hP hD hS (kX12_balance l hl9 D cA ad hr h0 _ 2000 3 t1 (0, 710 - (2 * (iI (n : Int))).toInt64) (zr67 hn9 hn0 hV)) qco_X12_balance qml_L_241 qin_X12_balance qse_X12_balance qini_X12 (show xCd yX12_balance 1 = true by decide +kernel) (by rw [← erm]; rfl) hl.1 rfl (lv_room (Nat.le_of_ble_eq_true rfl)) dL_law_1182 ⟨by rw [← erm]; exact Nat.le_of_ble_eq_true rfl, by rw [← erm]; exact Nat.le_of_ble_eq_true rfl⟩ (fun H locs hP hD hS => ?_)
  refine lv_ldc2 hx hb B.1.2.2.2.1 (B.1.2.2.2.2 _ qcl_L_313) dL_law_1185 ?_
  refine lv_iconst (v := 2) hx hb dL_law_1188 (by decide) ?_
  refine lv_iload hx hb dL_law_1189 (lv_at hl 1 rfl) ?_
  refine lv_imul hx hb dL_law_1191 ?_
  refine lv_i2l (v := (2 * (iI (n : Int))).toInt64) hx hb dL_law_1192 rfl ?_
  refine lv_lsub hx hb dL_law_1193 ?_
  refine W.lcmp hx hb dL_law_1194 ?_
  refine lv_if_ne (tgt := 1265) hx hb dL_law_1195 (by decide) (fun cc => absurd (lg_same _) cc) (fun _ => ?_)
  refine lv_aload hx hb dL_law_1198 (lv_at hl 0 rfl) ?_
  refine lv_iconst (v := 4) hx hb dL_law_1200 (by decide) ?_
  refine ocT (t9 := t1) (mc := 1) (ms := 6) B hp9 hP hD hS (kX12_balance l hl9 D cA ad hr h0 _ 2000 4 t1 (0, 0) (zr68 hn9 hn0 hV)) qco_X12_balance qml_L_241 qin_X12_balance qse_X12_balance qini_X12 (show xCd yX12_balance 1 = true by decide +kernel) (by rw [← erm]; rfl) hl.1 rfl (lv_room (Nat.le_of_ble_eq_true rfl)) dL_law_1201 ⟨by rw [← erm]; exact Nat.le_of_ble_eq_true rfl, by rw [← erm]; exact Nat.le_of_ble_eq_true rfl⟩ (fun H locs hP hD hS => ?_)
  refine lv_lconst (v := 0) hx hb dL_law_1204 (by decide) ?_
  refine W.lcmp hx hb dL_law_1205 ?_
  refine lv_if_ne (tgt := 1265) hx hb dL_law_1206 (by decide) (fun cc => absurd (lg_same _) cc) (fun _ => ?_)
  refine lv_aload hx hb dL_law_1209 (lv_at hl 0 rfl) ?_
  refine ocTz (t9 := t1) B hp9 hP hD hS (kX12_curtainCount l D cA ad hr h0 _ 2000  t1 1 (zr69 hn9 hn0 hV)) qco_X12_curtainCount qml_L_135 qin_X12_curtainCount qse_X12_curtainCount qini_X12 (show xCd yX12_curtainCount 0 = true by decide +kernel) (by rw [← erm]; rfl) hl.1 rfl (lv_room (Nat.le_of_ble_eq_true rfl)) dL_law_1211 ⟨by rw [← erm]; exact Nat.le_of_ble_eq_true rfl, by rw [← erm]; exact Nat.le_of_ble_eq_true rfl⟩ (fun H locs hP hD hS => ?_)
  refine lv_iconst (v := 1) hx hb dL_law_1214 (by decide) ?_
  refine lv_icmp_ne (tgt := 1265) hx hb dL_law_1215 (by decide) (fun cc => absurd rfl cc) (fun _ => ?_)
  refine lv_aload hx hb dL_law_1218 (lv_at hl 0 rfl) ?_
  obtain ⟨t2, r2, q, hV⟩ := (zrund hn9 hn0 hV)
  refine ocR (t9 := t2) (r9 := r2) (mc := 1) (ms := 6) B hp9 hP hD hS (kX12_undo l hl9 D cA ad hr h0 _ 2000  t1 r1 (0, iI (oUndo (zA9 n)).2.1, t2, r2) q) qco_X12_undo qml_L_199 qin_X12_undo qse_X12_undo qini_X12 (show xCd yX12_undo 0 = true by decide +kernel) (by rw [← erm]; rfl) hl.1 rfl (lv_room (Nat.le_of_ble_eq_true rfl)) dL_law_1220 ⟨by rw [← erm]; exact Nat.le_of_ble_eq_true rfl, by rw [← erm]; exact Nat.le_of_ble_eq_true rfl⟩ (fun H locs hP hD hS => ?_)
  refine lv_if_lt (tgt := 1265) hx hb dL_law_1223 (by decide) (fun cc => absurd cc (zfund n hn9 hn0).2) (fun _ => ?_)
  refine lv_aload hx hb dL_law_1226 (lv_at hl 0 rfl) ?_
  refine ocTz (t9 := t2) B hp9 hP hD hS (kX12_profit l D cA ad hr h0 _ 2000  t2 (210 - (2 * (iI (n : Int))).toInt64) (zr70 hn9 hn0 hV)) qco_X12_profit qml_L_257 qin_X12_profit qse_X12_profit qini_X12 (show xCd yX12_profit 0 = true by decide +kernel) (by rw [← erm]; rfl) hl.1 rfl (lv_room (Nat.le_of_ble_eq_true rfl)) dL_law_1228 ⟨by rw [← erm]; exact Nat.le_of_ble_eq_true rfl, by rw [← erm]; exact Nat.le_of_ble_eq_true rfl⟩ (fun H locs hP hD hS => ?_)
  refine lv_ldc2 hx hb B.1.2.2.2.1 (B.1.2.2.2.2 _ qcl_L_272) dL_law_1231 ?_
  refine lv_iconst (v := 2) hx hb dL_law_1234 (by decide) ?_
  refine lv_iload hx hb dL_law_1235 (lv_at hl 1 rfl) ?_
  refine lv_imul hx hb dL_law_1237 ?_
  refine lv_i2l (v := (2 * (iI (n : Int))).toInt64) hx hb dL_law_1238 rfl ?_
  refine lv_lsub hx hb dL_law_1239 ?_
  refine W.lcmp hx hb dL_law_1240 ?_
  refine lv_if_ne (tgt := 1265) hx hb dL_law_1241 (by decide) (fun cc => absurd (lg_same _) cc) (fun _ => ?_)
  refine lv_aload hx hb dL_law_1244 (lv_at hl 0 rfl) ?_
  refine lv_iconst (v := 3) hx hb dL_law_1246 (by decide) ?_
  refine ocT (t9 := t2) (mc := 1) (ms := 6) B hp9 hP hD hS (kX12_balance l hl9 D cA ad hr h0 _ 2000 3 t2 (0, 500) (zr71 hn9 hn0 hV)) qco_X12_balance qml_L_241 qin_X12_balance qse_X12_balance qini_X12 (show xCd yX12_balance 1 = true by decide +kernel) (by rw [← erm]; rfl) hl.1 rfl (lv_room (Nat.le_of_ble_eq_true rfl)) dL_law_1247 ⟨by rw [← erm]; exact Nat.le_of_ble_eq_true rfl, by rw [← erm]; exact Nat.le_of_ble_eq_true rfl⟩ (fun H locs hP hD hS => ?_)
  refine lv_ldc2 hx hb B.1.2.2.2.1 (B.1.2.2.2.2 _ qcl_L_244) dL_law_1250 ?_
  refine W.lcmp hx hb dL_law_1253 ?_
  refine lv_if_ne (tgt := 1265) hx hb dL_law_1254 (by decide) (fun cc => absurd (lg_same _) cc) (fun _ => ?_)
  refine lv_aload hx hb dL_law_1257 (lv_at hl 0 rfl) ?_
  refine ocTz (t9 := t2) B hp9 hP hD hS (kX12_curtainCount l D cA ad hr h0 _ 2000  t2 0 (zr72 hn9 hn0 hV)) qco_X12_curtainCount qml_L_135 qin_X12_curtainCount qse_X12_curtainCount qini_X12 (show xCd yX12_curtainCount 0 = true by decide +kernel) (by rw [← erm]; rfl) hl.1 rfl (lv_room (Nat.le_of_ble_eq_true rfl)) dL_law_1259 ⟨by rw [← erm]; exact Nat.le_of_ble_eq_true rfl, by rw [← erm]; exact Nat.le_of_ble_eq_true rfl⟩ (fun H locs hP hD hS => ?_)
  refine lv_if_eq (tgt := 1267) hx hb dL_law_1262 (by decide) (fun _ => ?_) (fun cc => absurd rfl cc)
  refine W.widen (k := 320000) (n := 3200000) (Nat.le_of_ble_eq_true rfl) (Nat.le_of_ble_eq_true rfl) ?_
  exact kk t2 r2 hV H locs hP hD hS ls hl
set_option maxRecDepth 100000 in
set_option maxHeartbeats 4000000 in
theorem lz_6 (hn9 : n < 9) (hn0 : 0 < n) (hp9 : P9.length = 572) (hl9 : l.stackTraces = false) (B : lB p l s m [.ref b] c meth cL_law 7 (some .boolean) D cA ad an tt A) (erm : RLw = rm) (hV : V 24 t r (zA10 n)) (hP : va_P D vwCl (P9 ++ (TR cA ad hr h0 t r ++ [])) H) (hD : va_D A (P9 ++ (TR cA ad hr h0 t r ++ []))) (hS : va_S A s.heap H locs) (hl : lv_has ls 7 [(6, .ref (h0 0)), (5, .int (iI (n : Int))), (4, .int v4), (3, .int v3), (2, .ref a2), (1, .ref a1), (0, .ref b)]) (kk : ∀ (t : ThlS) (r : Nat → BooS), V 27 t r (zA13 n) → ∀ (H : Heap) (locs : List Loc), va_P D vwCl (P9 ++ (TR cA ad hr h0 t r ++ [])) H → va_D A (P9 ++ (TR cA ad hr h0 t r ++ [])) → va_S A s.heap H locs → ∀ ls : Array Slot, lv_has ls 7 [(6, .ref (h0 0)), (5, .int (iI (n : Int))), (4, .int v4), (3, .int v3), (2, .ref a2), (1, .ref a1), (0, .ref b)] → W p l e rm s m ([.ref b] : List Value).toArray below meth c H locs 340000 3400000 Q (F0 m 1467 ls [])) : W p l e rm s m ([.ref b] : List Value).toArray below meth c H locs 320000 3200000 Q (F0 m 1267 ls []) := by
  have hx := B.1.1
  have hb := B.1.2.1
  refine lv_aload hx hb dL_law_1267 (lv_at hl 0 rfl) ?_
  refine lv_iconst (v := 0) hx hb dL_law_1269 (by decide) ?_
  obtain ⟨t1, r1, q, hV⟩ := (zr73 hn9 hn0 hV (by omega))
  refine ocR (t9 := t1) (r9 := r1) (mc := 1) (ms := 6) B hp9 hP hD hS (kX12_openBelow l hl9 D cA ad hr h0 _ 2000 0 t r (0, 6, t1, r1) q) qco_X12_openBelow qml_L_72 qin_X12_openBelow qse_X12_openBelow qini_X12 (show xCd yX12_openBelow 1 = true by decide +kernel) (by rw [← erm]; rfl) hl.1 rfl (lv_room (Nat.le_of_ble_eq_true rfl)) dL_law_1270 ⟨by rw [← erm]; exact Nat.le_of_ble_eq_true rfl, by rw [← erm]; exact Nat.le_of_ble_eq_true rfl⟩ (fun H locs hP hD hS => ?_)
  refine lv_bipush (v := 6) hx hb dL_law_1273 (by decide) ?_
  refine lv_icmp_ne (tgt := 1465) hx hb dL_law_1275 (by decide) (fun cc => absurd rfl cc) (fun _ => ?_)
  refine lv_aload hx hb dL_law_1278 (lv_at hl 0 rfl) ?_
  refine lv_bipush (v := 6) hx hb dL_law_1280 (by decide) ?_
  obtain ⟨t2, r2, q, hV⟩ := (zr74 hn9 hn0 hV (by omega))
  refine ocR (t9 := t2) (r9 := r2) (mc := 1) (ms := 6) B hp9 hP hD hS (kX12_openBelow l hl9 D cA ad hr h0 _ 2000 6 t1 r1 (0, 7, t2, r2) q) qco_X12_openBelow qml_L_72 qin_X12_openBelow qse_X12_openBelow qini_X12 (show xCd yX12_openBelow 1 = true by decide +kernel) (by rw [← erm]; rfl) hl.1 rfl (lv_room (Nat.le_of_ble_eq_true rfl)) dL_law_1282 ⟨by rw [← erm]; exact Nat.le_of_ble_eq_true rfl, by rw [← erm]; exact Nat.le_of_ble_eq_true rfl⟩ (fun H locs hP hD hS => ?_)
  refine lv_bipush (v := 7) hx hb dL_law_1285 (by decide) ?_
  refine lv_icmp_ne (tgt := 1465) hx hb dL_law_1287 (by decide) (fun cc => absurd rfl cc) (fun _ => ?_)
  refine lv_aload hx hb dL_law_1290 (lv_at hl 0 rfl) ?_
  refine lv_bipush (v := 7) hx hb dL_law_1292 (by decide) ?_
  refine ocT (t9 := t2) (mc := 2) (ms := 12) B hp9 hP hD hS (kX12_parent l hl9 D cA ad hr h0 _ 2000 7 t2 (0, 6) (zr75 hn9 hn0 hV)) qco_X12_parent qml_L_100 qin_X12_parent qse_X12_parent qini_X12 (show xCd yX12_parent 1 = true by decide +kernel) (by rw [← erm]; rfl) hl.1 rfl (lv_room (Nat.le_of_ble_eq_true rfl)) dL_law_1294 ⟨by rw [← erm]; exact Nat.le_of_ble_eq_true rfl, by rw [← erm]; exact Nat.le_of_ble_eq_true rfl⟩ (fun H locs hP hD hS => ?_)
  refine lv_bipush (v := 6) hx hb dL_law_1297 (by decide) ?_
  refine lv_icmp_ne (tgt := 1465) hx hb dL_law_1299 (by decide) (fun cc => absurd rfl cc) (fun _ => ?_)
  refine lv_aload hx hb dL_law_1302 (lv_at hl 0 rfl) ?_
  refine lv_bipush (v := 7) hx hb dL_law_1304 (by decide) ?_
  refine ocT (t9 := t2) (mc := 1) (ms := 6) B hp9 hP hD hS (kX12_kind l hl9 D cA ad hr h0 _ 2000 7 t2 (0, 97) (zr76 hn9 hn0 hV)) qco_X12_kind qml_L_144 qin_X12_kind qse_X12_kind qini_X12 (show xCd yX12_kind 1 = true by decide +kernel) (by rw [← erm]; rfl) hl.1 rfl (lv_room (Nat.le_of_ble_eq_true rfl)) dL_law_1306 ⟨by rw [← erm]; exact Nat.le_of_ble_eq_true rfl, by rw [← erm]; exact Nat.le_of_ble_eq_true rfl⟩ (fun H locs hP hD hS => ?_)
  refine lv_bipush (v := 97) hx hb dL_law_1309 (by decide) ?_
  refine lv_icmp_ne (tgt := 1465) hx hb dL_law_1311 (by decide) (fun cc => absurd rfl cc) (fun _ => ?_)
  refine lv_aload hx hb dL_law_1314 (lv_at hl 0 rfl) ?_
  refine lv_bipush (v := 12) hx hb dL_law_1316 (by decide) ?_
  refine lv_iconst (v := 0) hx hb dL_law_1318 (by decide) ?_
  refine lv_iconst (v := 0) hx hb dL_law_1319 (by decide) ?_
  refine ocLW (F := fun u => u) (mc := 2) (ms := 12) B hp9 hP hD hS (l_act12 l hl9 D cA ad an tt hr h0 _ _ 0 0 t2 r2 (zA12 n) hV) qcw_L_act qml_L_33 qst_L_act qini_L (show xCd yL_act 4 = true by decide +kernel) (by rw [← erm]; rfl) hl.1 rfl (lv_room (Nat.le_of_ble_eq_true rfl)) dL_law_1320 ⟨by rw [← erm]; exact Nat.le_of_ble_eq_true rfl, by rw [← erm]; exact Nat.le_of_ble_eq_true rfl⟩ (fun u3 hV9 H locs hP hD hS => ?_)
  rw [(zf77 n hn9 hn0)]
  have hV := hV9
  refine lv_ldc hx hb B.1.2.2.2.1 (B.1.2.2.2.2 _ qci_L_131) dL_law_1323 ?_
  refine lv_icmp_ne (tgt := 1465) hx hb dL_law_1325 (by decide) (fun cc => absurd rfl cc) (fun _ => ?_)
  refine lv_aload hx hb dL_law_1328 (lv_at hl 0 rfl) ?_
  refine lv_iconst (v := 0) hx hb dL_law_1330 (by decide) ?_
  refine ocT (t9 := u3.1) (mc := 1) (ms := 6) B hp9 hP hD hS (kX12_treeSize l hl9 D cA ad hr h0 _ 2000 0 u3.1 (0, 3) (zr78 hn9 hn0 hV)) qco_X12_treeSize qml_L_250 qin_X12_treeSize qse_X12_treeSize qini_X12 (show xCd yX12_treeSize 1 = true by decide +kernel) (by rw [← erm]; rfl) hl.1 rfl (lv_room (Nat.le_of_ble_eq_true rfl)) dL_law_1331 ⟨by rw [← erm]; exact Nat.le_of_ble_eq_true rfl, by rw [← erm]; exact Nat.le_of_ble_eq_true rfl⟩ (fun H locs hP hD hS => ?_)
  refine lv_iconst (v := 3) hx hb dL_law_1334 (by decide) ?_
  refine lv_icmp_ne (tgt := 1465) hx hb dL_law_1335 (by decide) (fun cc => absurd rfl cc) (fun _ => ?_)
  refine lv_aload hx hb dL_law_1338 (lv_at hl 0 rfl) ?_
  refine lv_bipush (v := 6) hx hb dL_law_1340 (by decide) ?_
  refine ocT (t9 := u3.1) (mc := 1) (ms := 6) B hp9 hP hD hS (kX12_treeSize l hl9 D cA ad hr h0 _ 2000 6 u3.1 (0, 2) (zr79 hn9 hn0 hV)) qco_X12_treeSize qml_L_250 qin_X12_treeSize qse_X12_treeSize qini_X12 (show xCd yX12_treeSize 1 = true by decide +kernel) (by rw [← erm]; rfl) hl.1 rfl (lv_room (Nat.le_of_ble_eq_true rfl)) dL_law_1342 ⟨by rw [← erm]; exact Nat.le_of_ble_eq_true rfl, by rw [← erm]; exact Nat.le_of_ble_eq_true rfl⟩ (fun H locs hP hD hS => ?_)
  refine lv_iconst (v := 2) hx hb dL_law_1345 (by decide) ?_
  refine lv_icmp_ne (tgt := 1465) hx hb dL_law_1346 (by decide) (fun cc => absurd rfl cc) (fun _ => ?_)
  refine lv_aload hx hb dL_law_1349 (lv_at hl 0 rfl) ?_
  refine lv_bipush (v := 7) hx hb dL_law_1351 (by decide) ?_
  refine lv_iconst (v := 0) hx hb dL_law_1353 (by decide) ?_
  refine lv_bipush (v := 90) hx hb dL_law_1354 (by decide) ?_
  obtain ⟨t4, r4, q, hV⟩ := (zr80 hn9 hn0 hV (by omega))
  refine ocR (t9 := t4) (r9 := r4) (mc := 1) (ms := 6) B hp9 hP hD hS (kX12_post l hl9 D cA ad hr h0 _ 2000 7 0 90 u3.1 u3.2 (0, 12, t4, r4) q) qco_X12_post qml_L_53 qin_X12_post qse_X12_post qini_X12 (show xCd yX12_post 3 = true by decide +kernel) (by rw [← erm]; rfl) hl.1 rfl (lv_room (Nat.le_of_ble_eq_true rfl)) dL_law_1356 ⟨by rw [← erm]; exact Nat.le_of_ble_eq_true rfl, by rw [← erm]; exact Nat.le_of_ble_eq_true rfl⟩ (fun H locs hP hD hS => ?_)
  refine lv_bipush (v := 12) hx hb dL_law_1359 (by decide) ?_
  refine lv_icmp_ne (tgt := 1465) hx hb dL_law_1361 (by decide) (fun cc => absurd rfl cc) (fun _ => ?_)
  refine lv_aload hx hb dL_law_1364 (lv_at hl 0 rfl) ?_
  refine lv_iconst (v := 0) hx hb dL_law_1366 (by decide) ?_
  refine ocT (t9 := t4) (mc := 1) (ms := 6) B hp9 hP hD hS (kX12_treeBalance l hl9 D cA ad hr h0 _ 2000 0 t4 (0, 590 - (2 * (iI (n : Int))).toInt64) (zr81 hn9 hn0 hV)) qco_X12_treeBalance qml_L_315 qin_X12_treeBalance qse_X12_treeBalance qini_X12 (show xCd yX12_treeBalance 1 = true by decide +kernel) (by rw [← erm]; rfl) hl.1 rfl (lv_room (Nat.le_of_ble_eq_true rfl)) dL_law_1367 ⟨by rw [← erm]; exact Nat.le_of_ble_eq_true rfl, by rw [← erm]; exact Nat.le_of_ble_eq_true rfl⟩ (fun H locs hP hD hS => ?_)
  refine lv_ldc2 hx hb B.1.2.2.2.1 (B.1.2.2.2.2 _ qcl_L_297) dL_law_1370 ?_
  refine lv_iconst (v := 2) hx hb dL_law_1373 (by decide) ?_
  refine lv_iload hx hb dL_law_1374 (lv_at hl 1 rfl) ?_
  refine lv_imul hx hb dL_law_1376 ?_
  refine lv_i2l (v := (2 * (iI (n : Int))).toInt64) hx hb dL_law_1377 rfl ?_
  refine lv_lsub hx hb dL_law_1378 ?_
  refine W.lcmp hx hb dL_law_1379 ?_
  refine lv_if_ne (tgt := 1465) hx hb dL_law_1380 (by decide) (fun cc => absurd (lg_same _) cc) (fun _ => ?_)
  refine lv_aload hx hb dL_law_1383 (lv_at hl 0 rfl) ?_
  refine lv_iconst (v := 0) hx hb dL_law_1385 (by decide) ?_
  refine ocT (t9 := t4) (mc := 1) (ms := 6) B hp9 hP hD hS (kX12_treeBalanceByParents l hl9 D cA ad hr h0 _ 2000 0 t4 (0, 590 - (2 * (iI (n : Int))).toInt64) (zr82 hn9 hn0 hV)) qco_X12_treeBalanceByParents qml_L_318 qin_X12_treeBalanceByParents qse_X12_treeBalanceByParents qini_X12 (show xCd yX12_treeBalanceByParents 1 = true by decide +kernel) (by rw [← erm]; rfl) hl.1 rfl (lv_room (Nat.le_of_ble_eq_true rfl)) dL_law_1386 ⟨by rw [← erm]; exact Nat.le_of_ble_eq_true rfl, by rw [← erm]; exact Nat.le_of_ble_eq_true rfl⟩ (fun H locs hP hD hS => ?_)
  refine lv_ldc2 hx hb B.1.2.2.2.1 (B.1.2.2.2.2 _ qcl_L_297) dL_law_1389 ?_
  refine lv_iconst (v := 2) hx hb dL_law_1392 (by decide) ?_
  refine lv_iload hx hb dL_law_1393 (lv_at hl 1 rfl) ?_
  refine lv_imul hx hb dL_law_1395 ?_
  refine lv_i2l (v := (2 * (iI (n : Int))).toInt64) hx hb dL_law_1396 rfl ?_
  refine lv_lsub hx hb dL_law_1397 ?_
  refine W.lcmp hx hb dL_law_1398 ?_
  refine lv_if_ne (tgt := 1465) hx hb dL_law_1399 (by decide) (fun cc => absurd (lg_same _) cc) (fun _ => ?_)
  refine lv_aload hx hb dL_law_1402 (lv_at hl 0 rfl) ?_
  refine lv_iconst (v := 0) hx hb dL_law_1404 (by decide) ?_
  refine ocT (t9 := t4) (mc := 1) (ms := 6) B hp9 hP hD hS (kX12_balance l hl9 D cA ad hr h0 _ 2000 0 t4 (0, 500 - (2 * (iI (n : Int))).toInt64) (zr83 hn9 hn0 hV)) qco_X12_balance qml_L_241 qin_X12_balance qse_X12_balance qini_X12 (show xCd yX12_balance 1 = true by decide +kernel) (by rw [← erm]; rfl) hl.1 rfl (lv_room (Nat.le_of_ble_eq_true rfl)) dL_law_1405 ⟨by rw [← erm]; exact Nat.le_of_ble_eq_true rfl, by rw [← erm]; exact Nat.le_of_ble_eq_true rfl⟩ (fun H locs hP hD hS => ?_)
  refine lv_ldc2 hx hb B.1.2.2.2.1 (B.1.2.2.2.2 _ qcl_L_244) dL_law_1408 ?_
  refine lv_iconst (v := 2) hx hb dL_law_1411 (by decide) ?_
  refine lv_iload hx hb dL_law_1412 (lv_at hl 1 rfl) ?_
  refine lv_imul hx hb dL_law_1414 ?_
  refine lv_i2l (v := (2 * (iI (n : Int))).toInt64) hx hb dL_law_1415 rfl ?_
  refine lv_lsub hx hb dL_law_1416 ?_
  refine W.lcmp hx hb dL_law_1417 ?_
  refine lv_if_ne (tgt := 1465) hx hb dL_law_1418 (by decide) (fun cc => absurd (lg_same _) cc) (fun _ => ?_)
  refine lv_aload hx hb dL_law_1421 (lv_at hl 0 rfl) ?_
  refine lv_bipush (v := 6) hx hb dL_law_1423 (by decide) ?_
  refine ocT (t9 := t4) (mc := 1) (ms := 6) B hp9 hP hD hS (kX12_treeBalance l hl9 D cA ad hr h0 _ 2000 6 t4 (0, 90) (zr84 hn9 hn0 hV)) qco_X12_treeBalance qml_L_315 qin_X12_treeBalance qse_X12_treeBalance qini_X12 (show xCd yX12_treeBalance 1 = true by decide +kernel) (by rw [← erm]; rfl) hl.1 rfl (lv_room (Nat.le_of_ble_eq_true rfl)) dL_law_1425 ⟨by rw [← erm]; exact Nat.le_of_ble_eq_true rfl, by rw [← erm]; exact Nat.le_of_ble_eq_true rfl⟩ (fun H locs hP hD hS => ?_)
  refine lv_ldc2 hx hb B.1.2.2.2.1 (B.1.2.2.2.2 _ qcl_L_321) dL_law_1428 ?_
  refine W.lcmp hx hb dL_law_1431 ?_
  refine lv_if_ne (tgt := 1465) hx hb dL_law_1432 (by decide) (fun cc => absurd (lg_same _) cc) (fun _ => ?_)
  refine lv_aload hx hb dL_law_1435 (lv_at hl 0 rfl) ?_
  refine lv_iconst (v := 0) hx hb dL_law_1437 (by decide) ?_
  refine ocT (t9 := t4) (mc := 1) (ms := 6) B hp9 hP hD hS (kX12_accountByBalance l hl9 D cA ad hr h0 _ 2000 0 t4 (0, 3) (zr85 hn9 hn0 hV)) qco_X12_accountByBalance qml_L_323 qin_X12_accountByBalance qse_X12_accountByBalance qini_X12 (show xCd yX12_accountByBalance 1 = true by decide +kernel) (by rw [← erm]; rfl) hl.1 rfl (lv_room (Nat.le_of_ble_eq_true rfl)) dL_law_1438 ⟨by rw [← erm]; exact Nat.le_of_ble_eq_true rfl, by rw [← erm]; exact Nat.le_of_ble_eq_true rfl⟩ (fun H locs hP hD hS => ?_)
  refine lv_iconst (v := 3) hx hb dL_law_1441 (by decide) ?_
  refine lv_icmp_ne (tgt := 1465) hx hb dL_law_1442 (by decide) (fun cc => absurd rfl cc) (fun _ => ?_)
  refine lv_aload hx hb dL_law_1445 (lv_at hl 0 rfl) ?_
  refine lv_bipush (v := 7) hx hb dL_law_1447 (by decide) ?_
  refine ocT (t9 := t4) (mc := 1) (ms := 6) B hp9 hP hD hS (kX12_accountByBalance l hl9 D cA ad hr h0 _ 2000 7 t4 (0, 6) (zr86 hn9 hn0 hV)) qco_X12_accountByBalance qml_L_323 qin_X12_accountByBalance qse_X12_accountByBalance qini_X12 (show xCd yX12_accountByBalance 1 = true by decide +kernel) (by rw [← erm]; rfl) hl.1 rfl (lv_room (Nat.le_of_ble_eq_true rfl)) dL_law_1449 ⟨by rw [← erm]; exact Nat.le_of_ble_eq_true rfl, by rw [← erm]; exact Nat.le_of_ble_eq_true rfl⟩ (fun H locs hP hD hS => ?_)
  refine lv_bipush (v := 6) hx hb dL_law_1452 (by decide) ?_
  refine lv_icmp_ne (tgt := 1465) hx hb dL_law_1454 (by decide) (fun cc => absurd rfl cc) (fun _ => ?_)
  refine lv_aload hx hb dL_law_1457 (lv_at hl 0 rfl) ?_
  obtain ⟨u5, q⟩ := (zr87 hn9 hn0 hV)
  refine ocTz (t9 := (Thls3 t4 u5)) B hp9 hP hD hS (kX12_isConsistent l D cA ad hr h0 _ 2000  t4 (1, (Thls3 t4 u5)) q) qco_X12_isConsistent qml_L_237 qin_X12_isConsistent qse_X12_isConsistent qini_X12 (show xCd yX12_isConsistent 0 = true by decide +kernel) (by rw [← erm]; rfl) hl.1 rfl (lv_room (Nat.le_of_ble_eq_true rfl)) dL_law_1459 ⟨by rw [← erm]; exact Nat.le_of_ble_eq_true rfl, by rw [← erm]; exact Nat.le_of_ble_eq_true rfl⟩ (fun H locs hP hD hS => ?_)
  have hV := V.mat hV u5
  refine lv_if_ne (tgt := 1467) hx hb dL_law_1462 (by decide) (fun _ => ?_) (fun cc => absurd cc one_ne)
  refine W.widen (k := 340000) (n := 3400000) (Nat.le_of_ble_eq_true rfl) (Nat.le_of_ble_eq_true rfl) ?_
  exact kk (Thls3 t4 u5) r4 hV H locs hP hD hS ls hl
set_option maxRecDepth 100000 in
set_option maxHeartbeats 4000000 in
theorem lz_7 (hn9 : n < 9) (hn0 : 0 < n) (hp9 : P9.length = 572) (hl9 : l.stackTraces = false) (B : lB p l s m [.ref b] c meth cL_law 7 (some .boolean) D cA ad an tt A) (erm : RLw = rm) (hV : V 27 t r (zA13 n)) (hP : va_P D vwCl (P9 ++ (TR cA ad hr h0 t r ++ [])) H) (hD : va_D A (P9 ++ (TR cA ad hr h0 t r ++ []))) (hS : va_S A s.heap H locs) (hl : lv_has ls 7 [(6, .ref (h0 0)), (5, .int (iI (n : Int))), (4, .int v4), (3, .int v3), (2, .ref a2), (1, .ref a1), (0, .ref b)]) (kk : ∀ (t : ThlS) (r : Nat → BooS), V 39 t r (zA14 n) → ∀ (H : Heap) (locs : List Loc), va_P D vwCl (P9 ++ (TR cA ad hr h0 t r ++ [])) H → va_D A (P9 ++ (TR cA ad hr h0 t r ++ [])) → va_S A s.heap H locs → ∀ ls : Array Slot, lv_has ls 7 [(6, .ref (h0 0)), (5, .int (iI (n : Int))), (4, .int v4), (3, .int v3), (2, .ref a2), (1, .ref a1), (0, .ref b)] → W p l e rm s m ([.ref b] : List Value).toArray below meth c H locs 360000 3600000 Q (F0 m 1497 ls [])) : W p l e rm s m ([.ref b] : List Value).toArray below meth c H locs 340000 3400000 Q (F0 m 1467 ls []) := by
  have hx := B.1.1
  have hb := B.1.2.1
  refine lv_aload hx hb dL_law_1467 (lv_at hl 0 rfl) ?_
  refine lv_ldcwS hx hb B.1.2.2.2.1 (B.2.2.2.2.2.1.2.2 18 (by decide)) dL_law_1469 ?_
  refine ocL (F := fun u => u) (mc := 60) (ms := 360) B hp9 hP hD hS (l_put l hl9 D cA ad an tt hr h0 _ _ 18 (by decide) t r (zA13 n) hV (zt13 n hn9 hn0)) qco_L_put qml_L_191 qst_L_put qini_L (show xCd yL_put 2 = true by decide +kernel) (by rw [← erm]; rfl) hl.1 rfl (lv_room (Nat.le_of_ble_eq_true rfl)) dL_law_1472 ⟨by rw [← erm]; exact Nat.le_of_ble_eq_true rfl, by rw [← erm]; exact Nat.le_of_ble_eq_true rfl⟩ (fun u1 hV9 H locs hP hD hS => ?_)
  have hV := hV9
  refine lv_aload hx hb dL_law_1475 (lv_at hl 0 rfl) ?_
  refine ocLW (F := fun u => u) (mc := 1) (ms := 6) B hp9 hP hD hS (l_runs l hl9 D cA ad an tt hr h0 _ _ u1.1 u1.2 (tW (zA13 n) (txI 18)) hV (by omega)) qcw_L_runs qml_L_204 qst_L_runs qini_L (show xCd yL_runs 1 = true by decide +kernel) (by rw [← erm]; rfl) hl.1 rfl (lv_room (Nat.le_of_ble_eq_true rfl)) dL_law_1477 ⟨by rw [← erm]; exact Nat.le_of_ble_eq_true rfl, by rw [← erm]; exact Nat.le_of_ble_eq_true rfl⟩ (fun u2 hV9 H locs hP hD hS => ?_)
  rw [(zfrun2 n hn9 hn0)]
  have hV : V _ _ _ (zA14 n) := hV9
  refine lv_bipush (v := (-2)) hx hb dL_law_1480 (by decide) ?_
  refine lv_icmp_ne (tgt := 1495) hx hb dL_law_1482 (by decide) (fun cc => absurd rfl cc) (fun _ => ?_)
  refine lv_aload hx hb dL_law_1485 (lv_at hl 0 rfl) ?_
  refine ocTz (t9 := u2.1) B hp9 hP hD hS (kX12_accountCount l D cA ad hr h0 _ 2000  u2.1 8 (zr88 hn9 hn0 hV)) qco_X12_accountCount qml_L_30 qin_X12_accountCount qse_X12_accountCount qini_X12 (show xCd yX12_accountCount 0 = true by decide +kernel) (by rw [← erm]; rfl) hl.1 rfl (lv_room (Nat.le_of_ble_eq_true rfl)) dL_law_1487 ⟨by rw [← erm]; exact Nat.le_of_ble_eq_true rfl, by rw [← erm]; exact Nat.le_of_ble_eq_true rfl⟩ (fun H locs hP hD hS => ?_)
  refine lv_bipush (v := 8) hx hb dL_law_1490 (by decide) ?_
  refine lv_icmp_eq (tgt := 1497) hx hb dL_law_1492 (by decide) (fun _ => ?_) (fun cc => absurd rfl cc)
  refine W.widen (k := 360000) (n := 3600000) (Nat.le_of_ble_eq_true rfl) (Nat.le_of_ble_eq_true rfl) ?_
  exact kk u2.1 u2.2 hV H locs hP hD hS ls hl
end LZ
