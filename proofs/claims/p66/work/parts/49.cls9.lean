/-! method by method: what it computes, and that its bytes compute it -/
def fX12_refuse (N : Nat) (a0 : Nat)  : Option (Nat) :=
  xnz (decide (a0 < 6)) <|
  if a0 = 1 then
    some 1
  else
    xnz (decide (a0 < 6)) <|
    if a0 = 2 then
      some 2
    else
      xnz (decide (a0 < 6)) <|
      if a0 = 3 then
        some 3
      else
        xnz (decide (a0 < 6)) <|
        if a0 = 4 then
          some 4
        else
          xnz (decide (a0 < 6)) <|
          if a0 = 5 then
            some 5
          else
            some 0
set_option maxRecDepth 100000 in
set_option maxHeartbeats 4000000 in
theorem kX12_refuse (l : Launch) (hl9 : l.stackTraces = false) (D : va_G) (cA : Nat → ClassId) (ad : Nat → Nat)  (sz N : Nat) (a0 : Nat)  (q : Nat) (h : fX12_refuse N a0 = some q) : vM l yX12_refuse cX12_refuse 1 none ({ frames := 6, cells := 1, slots := 6, locals := 90 }) D cA ad (([] : va_W)) sz [.ref (ad a0)] q (none) (([] : va_W)) 1 6 := by
  generalize erm : ({ frames := 6, cells := 1, slots := 6, locals := 90 } : Room) = rm
  refine vMet (by decide) (Nat.le_of_ble_eq_true rfl) ?_
  intro p e s m below meth c hx hb hr hlocks hml hts hown hin hK hP A eA hD hS hA hsz hN hE hV htab ls hl
  have hl : lv_has ls 1 [(0, .ref (ad a0))] := hl
  clear eA
  rw [fX12_refuse] at h
  refine lv_aload_n hx hb dX12_refuse_0 rfl (lv_at hl 0 rfl) ?_
  refine va_gets hx hb (xE.f1 hE) hS hown (hts _ qfl_X12_418) (fun _ h9 => h9) dX12_refuse_1 ?_
  obtain ⟨z1, h⟩ := x_nz h
  refine zAcmp_ne hE (tgt := 18) hx hb (of_decide_eq_true z1) (by decide) dX12_refuse_4 (by decide) (fun c2 => ?_) (fun c2 => ?_)
  · have h := x_f h c2
    refine lv_aload_n hx hb dX12_refuse_18 rfl (lv_at hl 0 rfl) ?_
    refine va_gets hx hb (xE.f2 hE) hS hown (hts _ qfl_X12_423) (fun _ h9 => h9) dX12_refuse_19 ?_
    obtain ⟨z3, h⟩ := x_nz h
    refine zAcmp_ne hE (tgt := 36) hx hb (of_decide_eq_true z3) (by decide) dX12_refuse_22 (by decide) (fun c4 => ?_) (fun c4 => ?_)
    · have h := x_f h c4
      refine lv_aload_n hx hb dX12_refuse_36 rfl (lv_at hl 0 rfl) ?_
      refine va_gets hx hb (xE.f3 hE) hS hown (hts _ qfl_X12_428) (fun _ h9 => h9) dX12_refuse_37 ?_
      obtain ⟨z5, h⟩ := x_nz h
      refine zAcmp_ne hE (tgt := 54) hx hb (of_decide_eq_true z5) (by decide) dX12_refuse_40 (by decide) (fun c6 => ?_) (fun c6 => ?_)
      · have h := x_f h c6
        refine lv_aload_n hx hb dX12_refuse_54 rfl (lv_at hl 0 rfl) ?_
        refine va_gets hx hb (xE.f4 hE) hS hown (hts _ qfl_X12_433) (fun _ h9 => h9) dX12_refuse_55 ?_
        obtain ⟨z7, h⟩ := x_nz h
        refine zAcmp_ne hE (tgt := 72) hx hb (of_decide_eq_true z7) (by decide) dX12_refuse_58 (by decide) (fun c8 => ?_) (fun c8 => ?_)
        · have h := x_f h c8
          refine lv_aload_n hx hb dX12_refuse_72 rfl (lv_at hl 0 rfl) ?_
          refine va_gets hx hb (xE.f5 hE) hS hown (hts _ qfl_X12_438) (fun _ h9 => h9) dX12_refuse_73 ?_
          obtain ⟨z9, h⟩ := x_nz h
          refine zAcmp_ne hE (tgt := 90) hx hb (of_decide_eq_true z9) (by decide) dX12_refuse_76 (by decide) (fun c10 => ?_) (fun c10 => ?_)
          · have h := x_f h c10
            have h := Option.some.inj h
            subst h
            refine W.widen (k := 1) (n := 6) (Nat.le_of_ble_eq_true rfl) (Nat.le_of_ble_eq_true rfl) ?_
            exact vVret hx hb hr hlocks hP hK hD hS dX12_refuse_90
          · have h := x_t h c10
            have h := Option.some.inj h
            subst h
            exact vThrowW (x := 5) (text := "the cash is too low") (is := 441) hx hb hl9 hown hts hN hV hA (by decide) xThr5 xThg5 (by decide +kernel) hK hP hD hS (hl.1.trans hml.symm) dX12_refuse_79 dX12_refuse_82 dX12_refuse_83 dX12_refuse_86 dX12_refuse_89 htab (by rw [← erm]; rfl) hlocks (by decide) (Nat.le_of_ble_eq_true rfl) (Nat.le_of_ble_eq_true rfl)
        · have h := x_t h c8
          have h := Option.some.inj h
          subst h
          exact vThrowW (x := 4) (text := "the books do not allow this now") (is := 436) hx hb hl9 hown hts hN hV hA (by decide) xThr4 xThg4 (by decide +kernel) hK hP hD hS (hl.1.trans hml.symm) dX12_refuse_61 dX12_refuse_64 dX12_refuse_65 dX12_refuse_68 dX12_refuse_71 htab (by rw [← erm]; rfl) hlocks (by decide) (Nat.le_of_ble_eq_true rfl) (Nat.le_of_ble_eq_true rfl)
      · have h := x_t h c6
        have h := Option.some.inj h
        subst h
        exact vThrowW (x := 3) (text := "an argument is out of range") (is := 431) hx hb hl9 hown hts hN hV hA (by decide) xThr3 xThg3 (by decide +kernel) hK hP hD hS (hl.1.trans hml.symm) dX12_refuse_43 dX12_refuse_46 dX12_refuse_47 dX12_refuse_50 dX12_refuse_53 htab (by rw [← erm]; rfl) hlocks (by decide) (Nat.le_of_ble_eq_true rfl) (Nat.le_of_ble_eq_true rfl)
    · have h := x_t h c4
      have h := Option.some.inj h
      subst h
      exact vThrowN (n := 32) (text := "no such entry is kept") (is := 426) hx hb hl9 hown hts hN hV (by decide +kernel) hK hP hD hS (hl.1.trans hml.symm) dX12_refuse_25 dX12_refuse_28 (Or.inr ⟨rfl, dX12_refuse_29⟩) dX12_refuse_32 dX12_refuse_35 htab (by rw [← erm]; rfl) hlocks (Nat.le_of_ble_eq_true rfl) (Nat.le_of_ble_eq_true rfl)
  · have h := x_t h c2
    have h := Option.some.inj h
    subst h
    exact vThrowW (x := 1) (text := "no such account") (is := 421) hx hb hl9 hown hts hN hV hA (by decide) xThr1 xThg1 (by decide +kernel) hK hP hD hS (hl.1.trans hml.symm) dX12_refuse_7 dX12_refuse_10 dX12_refuse_11 dX12_refuse_14 dX12_refuse_17 htab (by rw [← erm]; rfl) hlocks (by decide) (Nat.le_of_ble_eq_true rfl) (Nat.le_of_ble_eq_true rfl)
def fX12_open (N : Nat) (a1 : Int32) (s0 : ThlS) (s1 : (Nat → BooS)) : Option (Nat × Int32 × ThlS × (Nat → BooS)) :=
  xcall (fX1_faultOfNew N a1 s0.1.1) fun q1 =>
  xcall (fX12_refuse N q1) fun q2 =>
  xthr q2 (some (q2, 0, s0, s1)) <|
  xcall (fX12_record N s0 s1) fun q3 =>
  xcall (fX1_add N a1 (-1) q3.1.1.1) fun q4 =>
  some (0, q4.1, (Thls0 q3.1 ((Boos0 q3.1.1 q4.2))), q3.2)
set_option maxRecDepth 100000 in
set_option maxHeartbeats 4000000 in
theorem kX12_open (l : Launch) (hl9 : l.stackTraces = false) (D : va_G) (cA : Nat → ClassId) (ad : Nat → Nat) (hr : Nat → Nat → Nat) (h0 : Nat → Nat) (sz N : Nat) (a1 : Int32) (s0 : ThlS) (s1 : (Nat → BooS)) (q : Nat × Int32 × ThlS × (Nat → BooS)) (h : fX12_open N a1 s0 s1 = some q) : vM l yX12_open cX12_open 2 (some .int) ({ frames := 7, cells := 1, slots := 6, locals := 123 }) D cA ad (ThlW cA ad hr h0 s0 ++ RowW cA hr s1) sz [.ref (h0 0), .int a1] q.1 (some (.int q.2.1)) (ThlW cA ad hr h0 q.2.2.1 ++ RowW cA hr q.2.2.2) 1 6 := by
  generalize erm : ({ frames := 7, cells := 1, slots := 6, locals := 123 } : Room) = rm
  refine vMet (by decide) (Nat.le_of_ble_eq_true rfl) ?_
  intro p e s m below meth c hx hb hr9 hlocks hml hts hown hin hK hP A eA hD hS hA hsz hN hE hV htab ls hl
  have hl : lv_has ls 2 [(0, .ref (h0 0)), (1, .int a1)] := hl
  clear eA
  rw [fX12_open] at h
  refine lv_aload_n hx hb dX12_open_0 rfl (lv_at hl 0 rfl) ?_
  refine va_get (D := D) (ci := 11) (v := .ref (h0 1)) (C := RX12) (T := TX12) (N := 10) hx hb hts iX12 hown hK hP 0 rfl rfl 0 (by decide) (hts _ qfl_X12_10) (fun _ h9 => h9) rfl dX12_open_1 ?_
  refine va_getN (D := D) (ci := 4) (v := .ref (h0 2)) (C := RX3) (T := TX3) (N := 7) hx hb hts iX3 hown hK hP 1 rfl rfl 0 (by decide) (hN.use qfn_X12_51) (fun _ h9 => h9) rfl dX12_open_4 ?_
  refine lv_iload_n hx hb dX12_open_7 rfl (lv_at hl 1 rfl) ?_
  obtain ⟨q1, c1, h⟩ := x_call h
  refine xCallH (w2 := ThlW cA ad hr h0 s0 ++ RowW cA hr s1) (zRunV (n := 1) (As := [.int a1]) (rest := []) ⟨hx, hb, hml, hown, hts⟩ (kX1_faultOfNew l D cA ad (fun k => h0 (k + 2)) _ N a1 s0.1.1 q1 c1) qco_X1_faultOfNew qml_X12_55 qin_X1_faultOfNew qse_X1_faultOfNew qini_X1 (by decide +kernel) (by rw [← erm]; rfl) hN hE hS hA hK hP hD [2, 3, 4, 5, 6] rfl rfl (q0 := 0) rfl rfl rfl rfl rfl hl.1 rfl (lv_room (Nat.le_of_ble_eq_true rfl)) dX12_open_8 ⟨Nat.zero_le _, Nat.zero_le _⟩) hP hD hS hA [2, 3, 4, 5, 6] rfl rfl (xR2 (F := 61) [2, 3, 4, 5, 6] (xselH [none, none, some 0, some 1, some 2, some 3, some 4, none, none, none, none, none, none, none, none, none, none, none, none, none, none, none, none, none, none, none, none, none, none, none, none, none, none, none, none, none, none, none, none, none, none, none, none, none, none, none, none, none, none, none, none, none, none, none, none, none, none, none, none, none, none] rfl (by decide +kernel)) rfl rfl (by decide +kernel)) (fun H locs hP hD hS => ?_)
  obtain ⟨q2, c2, h⟩ := x_call h
  refine vCall (w2 := ThlW cA ad hr h0 s0 ++ RowW cA hr s1) (vRunS (n := 1) (As := [.ref (ad q1)]) (rest := []) ⟨hx, hb, hml, hown, hts⟩ (kX12_refuse l hl9 D cA ad  _ N q1 q2 c2) qco_X12_refuse qml_X12_61 qst_X12_refuse qini_X12 (by decide +kernel) (by rw [← erm]; rfl) hN hE hV hS hA hK hP hD [] rfl rfl rfl rfl hl.1 rfl (lv_room (Nat.le_of_ble_eq_true rfl)) dX12_open_11 ⟨by rw [← erm]; exact Nat.le_of_ble_eq_true rfl, by rw [← erm]; exact Nat.le_of_ble_eq_true rfl⟩) hP hD hS hA [] rfl rfl (xR2 (F := 61) [] (xselH [none, none, none, none, none, none, none, none, none, none, none, none, none, none, none, none, none, none, none, none, none, none, none, none, none, none, none, none, none, none, none, none, none, none, none, none, none, none, none, none, none, none, none, none, none, none, none, none, none, none, none, none, none, none, none, none, none, none, none, none, none] rfl (by decide +kernel)) rfl rfl (by decide +kernel)) (fun x2 q9 ce H locs hP hD hS hc1 hc2 hc3 => ?_) (fun x2 H locs hP hD hS => ?_)
  · have h := x_th1 h x2
    have h := Option.some.inj h
    subst h
    exact vOut (x := q2) htab hlocks hK hP hD hS x2 hc1 hc2 hc3 (Nat.le_of_ble_eq_true rfl) (Nat.le_of_ble_eq_true rfl)
  have h := x_th0 h x2
  refine lv_aload_n hx hb dX12_open_14 rfl (lv_at hl 0 rfl) ?_
  obtain ⟨q3, c3, h⟩ := x_call h
  refine xCallH (w2 := ThlW cA ad hr h0 q3.1 ++ RowW cA hr q3.2) (zRunV (n := 0) (As := []) (rest := []) ⟨hx, hb, hml, hown, hts⟩ (kX12_record l D cA ad hr h0 _ N s0 s1 q3 c3) qco_X12_record qml_X12_65 qin_X12_record qse_X12_record qini_X12 (by decide +kernel) (by rw [← erm]; rfl) hN hE hS hA hK hP hD ([0, 1, 2, 3, 4, 5, 6, 7, 8, 9, 10, 11, 12, 13, 14, 15, 16, 17, 18, 19, 20, 21, 22, 23, 24, 25, 26, 27, 28, 29, 30, 31, 32, 33, 34, 35, 36, 37, 38, 39, 40, 41, 42, 43, 44, 45, 46, 47, 48, 49, 50, 51, 52, 53, 54, 55, 56, 57, 58, 59, 60] ++ tp 61) (xTailC [0, 1, 2, 3, 4, 5, 6, 7, 8, 9, 10, 11, 12, 13, 14, 15, 16, 17, 18, 19, 20, 21, 22, 23, 24, 25, 26, 27, 28, 29, 30, 31, 32, 33, 34, 35, 36, 37, 38, 39, 40, 41, 42, 43, 44, 45, 46, 47, 48, 49, 50, 51, 52, 53, 54, 55, 56, 57, 58, 59, 60] rfl rfl) (by decide +kernel) (q0 := 0) rfl rfl rfl rfl rfl hl.1 rfl (lv_room (Nat.le_of_ble_eq_true rfl)) dX12_open_15 ⟨by rw [← erm]; exact Nat.le_of_ble_eq_true rfl, by rw [← erm]; exact Nat.le_of_ble_eq_true rfl⟩) hP hD hS hA ([0, 1, 2, 3, 4, 5, 6, 7, 8, 9, 10, 11, 12, 13, 14, 15, 16, 17, 18, 19, 20, 21, 22, 23, 24, 25, 26, 27, 28, 29, 30, 31, 32, 33, 34, 35, 36, 37, 38, 39, 40, 41, 42, 43, 44, 45, 46, 47, 48, 49, 50, 51, 52, 53, 54, 55, 56, 57, 58, 59, 60] ++ tp 61) (xTailC [0, 1, 2, 3, 4, 5, 6, 7, 8, 9, 10, 11, 12, 13, 14, 15, 16, 17, 18, 19, 20, 21, 22, 23, 24, 25, 26, 27, 28, 29, 30, 31, 32, 33, 34, 35, 36, 37, 38, 39, 40, 41, 42, 43, 44, 45, 46, 47, 48, 49, 50, 51, 52, 53, 54, 55, 56, 57, 58, 59, 60] rfl rfl) (xTailF rfl) (xT2 (F := 61) [0, 1, 2, 3, 4, 5, 6, 7, 8, 9, 10, 11, 12, 13, 14, 15, 16, 17, 18, 19, 20, 21, 22, 23, 24, 25, 26, 27, 28, 29, 30, 31, 32, 33, 34, 35, 36, 37, 38, 39, 40, 41, 42, 43, 44, 45, 46, 47, 48, 49, 50, 51, 52, 53, 54, 55, 56, 57, 58, 59, 60] (xselH [some 0, some 1, some 2, some 3, some 4, some 5, some 6, some 7, some 8, some 9, some 10, some 11, some 12, some 13, some 14, some 15, some 16, some 17, some 18, some 19, some 20, some 21, some 22, some 23, some 24, some 25, some 26, some 27, some 28, some 29, some 30, some 31, some 32, some 33, some 34, some 35, some 36, some 37, some 38, some 39, some 40, some 41, some 42, some 43, some 44, some 45, some 46, some 47, some 48, some 49, some 50, some 51, some 52, some 53, some 54, some 55, some 56, some 57, some 58, some 59, some 60] rfl (by decide +kernel)) rfl rfl rfl) (fun H locs hP hD hS => ?_)
  refine lv_aload_n hx hb dX12_open_18 rfl (lv_at hl 0 rfl) ?_
  refine va_get (D := D) (ci := 11) (v := .ref (h0 1)) (C := RX12) (T := TX12) (N := 10) hx hb hts iX12 hown hK hP 0 rfl rfl 0 (by decide) (hts _ qfl_X12_10) (fun _ h9 => h9) rfl dX12_open_19 ?_
  refine va_getN (D := D) (ci := 4) (v := .ref (h0 2)) (C := RX3) (T := TX3) (N := 7) hx hb hts iX3 hown hK hP 1 rfl rfl 0 (by decide) (hN.use qfn_X12_51) (fun _ h9 => h9) rfl dX12_open_22 ?_
  refine lv_iload_n hx hb dX12_open_25 rfl (lv_at hl 1 rfl) ?_
  refine lv_iconst (v := (-1)) hx hb dX12_open_26 (by decide) ?_
  obtain ⟨q4, c4, h⟩ := x_call h
  refine xCallH (w2 := ThlW cA ad hr h0 ((Thls0 q3.1 ((Boos0 q3.1.1 q4.2)))) ++ RowW cA hr q3.2) (zRunV (n := 2) (As := [.int a1, .int (-1)]) (rest := []) ⟨hx, hb, hml, hown, hts⟩ (kX1_add l D cA ad (fun k => h0 (k + 2)) _ N a1 (-1) q3.1.1.1 q4 c4) qco_X1_add qml_X12_68 qin_X1_add qse_X1_add qini_X1 (by decide +kernel) (by rw [← erm]; rfl) hN hE hS hA hK hP hD [2, 3, 4, 5, 6] rfl rfl (q0 := 0) rfl rfl rfl rfl rfl hl.1 rfl (lv_room (Nat.le_of_ble_eq_true rfl)) dX12_open_27 ⟨by rw [← erm]; exact Nat.le_of_ble_eq_true rfl, by rw [← erm]; exact Nat.le_of_ble_eq_true rfl⟩) hP hD hS hA [2, 3, 4, 5, 6] rfl rfl (xR2 (F := 61) [2, 3, 4, 5, 6] (xselH [none, none, some 0, some 1, some 2, some 3, some 4, none, none, none, none, none, none, none, none, none, none, none, none, none, none, none, none, none, none, none, none, none, none, none, none, none, none, none, none, none, none, none, none, none, none, none, none, none, none, none, none, none, none, none, none, none, none, none, none, none, none, none, none, none, none] rfl (by decide +kernel)) rfl rfl (by decide +kernel)) (fun H locs hP hD hS => ?_)
  have h := Option.some.inj h
  subst h
  refine W.widen (k := 1) (n := 6) (Nat.le_of_ble_eq_true rfl) (Nat.le_of_ble_eq_true rfl) ?_
  exact vIret hx hb hr9 hlocks hP hK hD hS dX12_open_30
def fX12_openBelow (N : Nat) (a1 : Int32) (s0 : ThlS) (s1 : (Nat → BooS)) : Option (Nat × Int32 × ThlS × (Nat → BooS)) :=
  xcall (fX1_faultOfNewBelow N a1 s0.1.1) fun q1 =>
  xcall (fX12_refuse N q1) fun q2 =>
  xthr q2 (some (q2, 0, s0, s1)) <|
  xcall (fX12_record N s0 s1) fun q3 =>
  xcall (fX1_kindAt N a1 q3.1.1.1) fun q4 =>
  xcall (fX1_add N q4 a1 q3.1.1.1) fun q5 =>
  some (0, q5.1, (Thls0 q3.1 ((Boos0 q3.1.1 q5.2))), q3.2)
set_option maxRecDepth 100000 in
set_option maxHeartbeats 4000000 in
theorem kX12_openBelow (l : Launch) (hl9 : l.stackTraces = false) (D : va_G) (cA : Nat → ClassId) (ad : Nat → Nat) (hr : Nat → Nat → Nat) (h0 : Nat → Nat) (sz N : Nat) (a1 : Int32) (s0 : ThlS) (s1 : (Nat → BooS)) (q : Nat × Int32 × ThlS × (Nat → BooS)) (h : fX12_openBelow N a1 s0 s1 = some q) : vM l yX12_openBelow cX12_openBelow 2 (some .int) ({ frames := 7, cells := 1, slots := 6, locals := 123 }) D cA ad (ThlW cA ad hr h0 s0 ++ RowW cA hr s1) sz [.ref (h0 0), .int a1] q.1 (some (.int q.2.1)) (ThlW cA ad hr h0 q.2.2.1 ++ RowW cA hr q.2.2.2) 1 6 := by
  generalize erm : ({ frames := 7, cells := 1, slots := 6, locals := 123 } : Room) = rm
  refine vMet (by decide) (Nat.le_of_ble_eq_true rfl) ?_
  intro p e s m below meth c hx hb hr9 hlocks hml hts hown hin hK hP A eA hD hS hA hsz hN hE hV htab ls hl
  have hl : lv_has ls 2 [(0, .ref (h0 0)), (1, .int a1)] := hl
  clear eA
  rw [fX12_openBelow] at h
  refine lv_aload_n hx hb dX12_openBelow_0 rfl (lv_at hl 0 rfl) ?_
  refine va_get (D := D) (ci := 11) (v := .ref (h0 1)) (C := RX12) (T := TX12) (N := 10) hx hb hts iX12 hown hK hP 0 rfl rfl 0 (by decide) (hts _ qfl_X12_10) (fun _ h9 => h9) rfl dX12_openBelow_1 ?_
  refine va_getN (D := D) (ci := 4) (v := .ref (h0 2)) (C := RX3) (T := TX3) (N := 7) hx hb hts iX3 hown hK hP 1 rfl rfl 0 (by decide) (hN.use qfn_X12_51) (fun _ h9 => h9) rfl dX12_openBelow_4 ?_
  refine lv_iload_n hx hb dX12_openBelow_7 rfl (lv_at hl 1 rfl) ?_
  obtain ⟨q1, c1, h⟩ := x_call h
  refine xCallH (w2 := ThlW cA ad hr h0 s0 ++ RowW cA hr s1) (zRunV (n := 1) (As := [.int a1]) (rest := []) ⟨hx, hb, hml, hown, hts⟩ (kX1_faultOfNewBelow l D cA ad (fun k => h0 (k + 2)) _ N a1 s0.1.1 q1 c1) qco_X1_faultOfNewBelow qml_X12_72 qin_X1_faultOfNewBelow qse_X1_faultOfNewBelow qini_X1 (by decide +kernel) (by rw [← erm]; rfl) hN hE hS hA hK hP hD [2, 3, 4, 5, 6] rfl rfl (q0 := 0) rfl rfl rfl rfl rfl hl.1 rfl (lv_room (Nat.le_of_ble_eq_true rfl)) dX12_openBelow_8 ⟨Nat.zero_le _, Nat.zero_le _⟩) hP hD hS hA [2, 3, 4, 5, 6] rfl rfl (xR2 (F := 61) [2, 3, 4, 5, 6] (xselH [none, none, some 0, some 1, some 2, some 3, some 4, none, none, none, none, none, none, none, none, none, none, none, none, none, none, none, none, none, none, none, none, none, none, none, none, none, none, none, none, none, none, none, none, none, none, none, none, none, none, none, none, none, none, none, none, none, none, none, none, none, none, none, none, none, none] rfl (by decide +kernel)) rfl rfl (by decide +kernel)) (fun H locs hP hD hS => ?_)
  obtain ⟨q2, c2, h⟩ := x_call h
  refine vCall (w2 := ThlW cA ad hr h0 s0 ++ RowW cA hr s1) (vRunS (n := 1) (As := [.ref (ad q1)]) (rest := []) ⟨hx, hb, hml, hown, hts⟩ (kX12_refuse l hl9 D cA ad  _ N q1 q2 c2) qco_X12_refuse qml_X12_61 qst_X12_refuse qini_X12 (by decide +kernel) (by rw [← erm]; rfl) hN hE hV hS hA hK hP hD [] rfl rfl rfl rfl hl.1 rfl (lv_room (Nat.le_of_ble_eq_true rfl)) dX12_openBelow_11 ⟨by rw [← erm]; exact Nat.le_of_ble_eq_true rfl, by rw [← erm]; exact Nat.le_of_ble_eq_true rfl⟩) hP hD hS hA [] rfl rfl (xR2 (F := 61) [] (xselH [none, none, none, none, none, none, none, none, none, none, none, none, none, none, none, none, none, none, none, none, none, none, none, none, none, none, none, none, none, none, none, none, none, none, none, none, none, none, none, none, none, none, none, none, none, none, none, none, none, none, none, none, none, none, none, none, none, none, none, none, none] rfl (by decide +kernel)) rfl rfl (by decide +kernel)) (fun x2 q9 ce H locs hP hD hS hc1 hc2 hc3 => ?_) (fun x2 H locs hP hD hS => ?_)
  · have h := x_th1 h x2
    have h := Option.some.inj h
    subst h
    exact vOut (x := q2) htab hlocks hK hP hD hS x2 hc1 hc2 hc3 (Nat.le_of_ble_eq_true rfl) (Nat.le_of_ble_eq_true rfl)
  have h := x_th0 h x2
  refine lv_aload_n hx hb dX12_openBelow_14 rfl (lv_at hl 0 rfl) ?_
  obtain ⟨q3, c3, h⟩ := x_call h
  refine xCallH (w2 := ThlW cA ad hr h0 q3.1 ++ RowW cA hr q3.2) (zRunV (n := 0) (As := []) (rest := []) ⟨hx, hb, hml, hown, hts⟩ (kX12_record l D cA ad hr h0 _ N s0 s1 q3 c3) qco_X12_record qml_X12_65 qin_X12_record qse_X12_record qini_X12 (by decide +kernel) (by rw [← erm]; rfl) hN hE hS hA hK hP hD ([0, 1, 2, 3, 4, 5, 6, 7, 8, 9, 10, 11, 12, 13, 14, 15, 16, 17, 18, 19, 20, 21, 22, 23, 24, 25, 26, 27, 28, 29, 30, 31, 32, 33, 34, 35, 36, 37, 38, 39, 40, 41, 42, 43, 44, 45, 46, 47, 48, 49, 50, 51, 52, 53, 54, 55, 56, 57, 58, 59, 60] ++ tp 61) (xTailC [0, 1, 2, 3, 4, 5, 6, 7, 8, 9, 10, 11, 12, 13, 14, 15, 16, 17, 18, 19, 20, 21, 22, 23, 24, 25, 26, 27, 28, 29, 30, 31, 32, 33, 34, 35, 36, 37, 38, 39, 40, 41, 42, 43, 44, 45, 46, 47, 48, 49, 50, 51, 52, 53, 54, 55, 56, 57, 58, 59, 60] rfl rfl) (by decide +kernel) (q0 := 0) rfl rfl rfl rfl rfl hl.1 rfl (lv_room (Nat.le_of_ble_eq_true rfl)) dX12_openBelow_15 ⟨by rw [← erm]; exact Nat.le_of_ble_eq_true rfl, by rw [← erm]; exact Nat.le_of_ble_eq_true rfl⟩) hP hD hS hA ([0, 1, 2, 3, 4, 5, 6, 7, 8, 9, 10, 11, 12, 13, 14, 15, 16, 17, 18, 19, 20, 21, 22, 23, 24, 25, 26, 27, 28, 29, 30, 31, 32, 33, 34, 35, 36, 37, 38, 39, 40, 41, 42, 43, 44, 45, 46, 47, 48, 49, 50, 51, 52, 53, 54, 55, 56, 57, 58, 59, 60] ++ tp 61) (xTailC [0, 1, 2, 3, 4, 5, 6, 7, 8, 9, 10, 11, 12, 13, 14, 15, 16, 17, 18, 19, 20, 21, 22, 23, 24, 25, 26, 27, 28, 29, 30, 31, 32, 33, 34, 35, 36, 37, 38, 39, 40, 41, 42, 43, 44, 45, 46, 47, 48, 49, 50, 51, 52, 53, 54, 55, 56, 57, 58, 59, 60] rfl rfl) (xTailF rfl) (xT2 (F := 61) [0, 1, 2, 3, 4, 5, 6, 7, 8, 9, 10, 11, 12, 13, 14, 15, 16, 17, 18, 19, 20, 21, 22, 23, 24, 25, 26, 27, 28, 29, 30, 31, 32, 33, 34, 35, 36, 37, 38, 39, 40, 41, 42, 43, 44, 45, 46, 47, 48, 49, 50, 51, 52, 53, 54, 55, 56, 57, 58, 59, 60] (xselH [some 0, some 1, some 2, some 3, some 4, some 5, some 6, some 7, some 8, some 9, some 10, some 11, some 12, some 13, some 14, some 15, some 16, some 17, some 18, some 19, some 20, some 21, some 22, some 23, some 24, some 25, some 26, some 27, some 28, some 29, some 30, some 31, some 32, some 33, some 34, some 35, some 36, some 37, some 38, some 39, some 40, some 41, some 42, some 43, some 44, some 45, some 46, some 47, some 48, some 49, some 50, some 51, some 52, some 53, some 54, some 55, some 56, some 57, some 58, some 59, some 60] rfl (by decide +kernel)) rfl rfl rfl) (fun H locs hP hD hS => ?_)
  refine lv_aload_n hx hb dX12_openBelow_18 rfl (lv_at hl 0 rfl) ?_
  refine va_get (D := D) (ci := 11) (v := .ref (h0 1)) (C := RX12) (T := TX12) (N := 10) hx hb hts iX12 hown hK hP 0 rfl rfl 0 (by decide) (hts _ qfl_X12_10) (fun _ h9 => h9) rfl dX12_openBelow_19 ?_
  refine va_getN (D := D) (ci := 4) (v := .ref (h0 2)) (C := RX3) (T := TX3) (N := 7) hx hb hts iX3 hown hK hP 1 rfl rfl 0 (by decide) (hN.use qfn_X12_51) (fun _ h9 => h9) rfl dX12_openBelow_22 ?_
  refine lv_aload_n hx hb dX12_openBelow_25 rfl (lv_at hl 0 rfl) ?_
  refine va_get (D := D) (ci := 11) (v := .ref (h0 1)) (C := RX12) (T := TX12) (N := 10) hx hb hts iX12 hown hK hP 0 rfl rfl 0 (by decide) (hts _ qfl_X12_10) (fun _ h9 => h9) rfl dX12_openBelow_26 ?_
  refine va_getN (D := D) (ci := 4) (v := .ref (h0 2)) (C := RX3) (T := TX3) (N := 7) hx hb hts iX3 hown hK hP 1 rfl rfl 0 (by decide) (hN.use qfn_X12_51) (fun _ h9 => h9) rfl dX12_openBelow_29 ?_
  refine lv_iload_n hx hb dX12_openBelow_32 rfl (lv_at hl 1 rfl) ?_
  obtain ⟨q4, c4, h⟩ := x_call h
  refine xCallH (w2 := ThlW cA ad hr h0 q3.1 ++ RowW cA hr q3.2) (zRunV (n := 1) (As := [.int a1]) (rest := [.ref (h0 2)]) ⟨hx, hb, hml, hown, hts⟩ (kX1_kindAt l D cA ad (fun k => h0 (k + 2)) _ N a1 q3.1.1.1 q4 c4) qco_X1_kindAt qml_X12_76 qin_X1_kindAt qse_X1_kindAt qini_X1 (by decide +kernel) (by rw [← erm]; rfl) hN hE hS hA hK hP hD [2, 3, 4, 5, 6] rfl rfl (q0 := 0) rfl rfl rfl rfl rfl hl.1 rfl (lv_room (Nat.le_of_ble_eq_true rfl)) dX12_openBelow_33 ⟨by rw [← erm]; exact Nat.le_of_ble_eq_true rfl, by rw [← erm]; exact Nat.le_of_ble_eq_true rfl⟩) hP hD hS hA [2, 3, 4, 5, 6] rfl rfl (xR2 (F := 61) [2, 3, 4, 5, 6] (xselH [none, none, some 0, some 1, some 2, some 3, some 4, none, none, none, none, none, none, none, none, none, none, none, none, none, none, none, none, none, none, none, none, none, none, none, none, none, none, none, none, none, none, none, none, none, none, none, none, none, none, none, none, none, none, none, none, none, none, none, none, none, none, none, none, none, none] rfl (by decide +kernel)) rfl rfl (by decide +kernel)) (fun H locs hP hD hS => ?_)
  refine lv_iload_n hx hb dX12_openBelow_36 rfl (lv_at hl 1 rfl) ?_
  obtain ⟨q5, c5, h⟩ := x_call h
  refine xCallH (w2 := ThlW cA ad hr h0 ((Thls0 q3.1 ((Boos0 q3.1.1 q5.2)))) ++ RowW cA hr q3.2) (zRunV (n := 2) (As := [.int q4, .int a1]) (rest := []) ⟨hx, hb, hml, hown, hts⟩ (kX1_add l D cA ad (fun k => h0 (k + 2)) _ N q4 a1 q3.1.1.1 q5 c5) qco_X1_add qml_X12_68 qin_X1_add qse_X1_add qini_X1 (by decide +kernel) (by rw [← erm]; rfl) hN hE hS hA hK hP hD [2, 3, 4, 5, 6] rfl rfl (q0 := 0) rfl rfl rfl rfl rfl hl.1 rfl (lv_room (Nat.le_of_ble_eq_true rfl)) dX12_openBelow_37 ⟨by rw [← erm]; exact Nat.le_of_ble_eq_true rfl, by rw [← erm]; exact Nat.le_of_ble_eq_true rfl⟩) hP hD hS hA [2, 3, 4, 5, 6] rfl rfl (xR2 (F := 61) [2, 3, 4, 5, 6] (xselH [none, none, some 0, some 1, some 2, some 3, some 4, none, none, none, none, none, none, none, none, none, none, none, none, none, none, none, none, none, none, none, none, none, none, none, none, none, none, none, none, none, none, none, none, none, none, none, none, none, none, none, none, none, none, none, none, none, none, none, none, none, none, none, none, none, none] rfl (by decide +kernel)) rfl rfl (by decide +kernel)) (fun H locs hP hD hS => ?_)
  have h := Option.some.inj h
  subst h
  refine W.widen (k := 1) (n := 6) (Nat.le_of_ble_eq_true rfl) (Nat.le_of_ble_eq_true rfl) ?_
  exact vIret hx hb hr9 hlocks hP hK hD hS dX12_openBelow_40
def fX12_post (N : Nat) (a1 : Int32) (a2 : Int32) (a3 : Int32) (s0 : ThlS) (s1 : (Nat → BooS)) : Option (Nat × Int32 × ThlS × (Nat → BooS)) :=
  xcall (fX1_faultOfEntry N a1 a2 a3 s0.1.1) fun q1 =>
  xcall (fX12_refuse N q1) fun q2 =>
  xthr q2 (some (q2, 0, s0, s1)) <|
  xcall (fX12_record N s0 s1) fun q3 =>
  xcall (fX3_makeEntry N a1 a2 (a3.toInt64) q3.1.1) fun q4 =>
  some (0, q4.1, (Thls0 q3.1 q4.2), q3.2)
set_option maxRecDepth 100000 in
set_option maxHeartbeats 4000000 in
theorem kX12_post (l : Launch) (hl9 : l.stackTraces = false) (D : va_G) (cA : Nat → ClassId) (ad : Nat → Nat) (hr : Nat → Nat → Nat) (h0 : Nat → Nat) (sz N : Nat) (a1 : Int32) (a2 : Int32) (a3 : Int32) (s0 : ThlS) (s1 : (Nat → BooS)) (q : Nat × Int32 × ThlS × (Nat → BooS)) (h : fX12_post N a1 a2 a3 s0 s1 = some q) : vM l yX12_post cX12_post 4 (some .int) ({ frames := 7, cells := 1, slots := 6, locals := 123 }) D cA ad (ThlW cA ad hr h0 s0 ++ RowW cA hr s1) sz [.ref (h0 0), .int a1, .int a2, .int a3] q.1 (some (.int q.2.1)) (ThlW cA ad hr h0 q.2.2.1 ++ RowW cA hr q.2.2.2) 1 6 := by
  generalize erm : ({ frames := 7, cells := 1, slots := 6, locals := 123 } : Room) = rm
  refine vMet (by decide) (Nat.le_of_ble_eq_true rfl) ?_
  intro p e s m below meth c hx hb hr9 hlocks hml hts hown hin hK hP A eA hD hS hA hsz hN hE hV htab ls hl
  have hl : lv_has ls 4 [(0, .ref (h0 0)), (1, .int a1), (2, .int a2), (3, .int a3)] := hl
  clear eA
  rw [fX12_post] at h
  refine lv_aload_n hx hb dX12_post_0 rfl (lv_at hl 0 rfl) ?_
  refine va_get (D := D) (ci := 11) (v := .ref (h0 1)) (C := RX12) (T := TX12) (N := 10) hx hb hts iX12 hown hK hP 0 rfl rfl 0 (by decide) (hts _ qfl_X12_10) (fun _ h9 => h9) rfl dX12_post_1 ?_
  refine va_getN (D := D) (ci := 4) (v := .ref (h0 2)) (C := RX3) (T := TX3) (N := 7) hx hb hts iX3 hown hK hP 1 rfl rfl 0 (by decide) (hN.use qfn_X12_51) (fun _ h9 => h9) rfl dX12_post_4 ?_
  refine lv_iload_n hx hb dX12_post_7 rfl (lv_at hl 1 rfl) ?_
  refine lv_iload_n hx hb dX12_post_8 rfl (lv_at hl 2 rfl) ?_
  refine lv_iload_n hx hb dX12_post_9 rfl (lv_at hl 3 rfl) ?_
  obtain ⟨q1, c1, h⟩ := x_call h
  refine xCallH (w2 := ThlW cA ad hr h0 s0 ++ RowW cA hr s1) (zRunV (n := 3) (As := [.int a1, .int a2, .int a3]) (rest := []) ⟨hx, hb, hml, hown, hts⟩ (kX1_faultOfEntry l D cA ad (fun k => h0 (k + 2)) _ N a1 a2 a3 s0.1.1 q1 c1) qco_X1_faultOfEntry qml_X12_80 qin_X1_faultOfEntry qse_X1_faultOfEntry qini_X1 (by decide +kernel) (by rw [← erm]; rfl) hN hE hS hA hK hP hD [2, 3, 4, 5, 6] rfl rfl (q0 := 0) rfl rfl rfl rfl rfl hl.1 rfl (lv_room (Nat.le_of_ble_eq_true rfl)) dX12_post_10 ⟨Nat.zero_le _, Nat.zero_le _⟩) hP hD hS hA [2, 3, 4, 5, 6] rfl rfl (xR2 (F := 61) [2, 3, 4, 5, 6] (xselH [none, none, some 0, some 1, some 2, some 3, some 4, none, none, none, none, none, none, none, none, none, none, none, none, none, none, none, none, none, none, none, none, none, none, none, none, none, none, none, none, none, none, none, none, none, none, none, none, none, none, none, none, none, none, none, none, none, none, none, none, none, none, none, none, none, none] rfl (by decide +kernel)) rfl rfl (by decide +kernel)) (fun H locs hP hD hS => ?_)
  obtain ⟨q2, c2, h⟩ := x_call h
  refine vCall (w2 := ThlW cA ad hr h0 s0 ++ RowW cA hr s1) (vRunS (n := 1) (As := [.ref (ad q1)]) (rest := []) ⟨hx, hb, hml, hown, hts⟩ (kX12_refuse l hl9 D cA ad  _ N q1 q2 c2) qco_X12_refuse qml_X12_61 qst_X12_refuse qini_X12 (by decide +kernel) (by rw [← erm]; rfl) hN hE hV hS hA hK hP hD [] rfl rfl rfl rfl hl.1 rfl (lv_room (Nat.le_of_ble_eq_true rfl)) dX12_post_13 ⟨by rw [← erm]; exact Nat.le_of_ble_eq_true rfl, by rw [← erm]; exact Nat.le_of_ble_eq_true rfl⟩) hP hD hS hA [] rfl rfl (xR2 (F := 61) [] (xselH [none, none, none, none, none, none, none, none, none, none, none, none, none, none, none, none, none, none, none, none, none, none, none, none, none, none, none, none, none, none, none, none, none, none, none, none, none, none, none, none, none, none, none, none, none, none, none, none, none, none, none, none, none, none, none, none, none, none, none, none, none] rfl (by decide +kernel)) rfl rfl (by decide +kernel)) (fun x2 q9 ce H locs hP hD hS hc1 hc2 hc3 => ?_) (fun x2 H locs hP hD hS => ?_)
  · have h := x_th1 h x2
    have h := Option.some.inj h
    subst h
    exact vOut (x := q2) htab hlocks hK hP hD hS x2 hc1 hc2 hc3 (Nat.le_of_ble_eq_true rfl) (Nat.le_of_ble_eq_true rfl)
  have h := x_th0 h x2
  refine lv_aload_n hx hb dX12_post_16 rfl (lv_at hl 0 rfl) ?_
  obtain ⟨q3, c3, h⟩ := x_call h
  refine xCallH (w2 := ThlW cA ad hr h0 q3.1 ++ RowW cA hr q3.2) (zRunV (n := 0) (As := []) (rest := []) ⟨hx, hb, hml, hown, hts⟩ (kX12_record l D cA ad hr h0 _ N s0 s1 q3 c3) qco_X12_record qml_X12_65 qin_X12_record qse_X12_record qini_X12 (by decide +kernel) (by rw [← erm]; rfl) hN hE hS hA hK hP hD ([0, 1, 2, 3, 4, 5, 6, 7, 8, 9, 10, 11, 12, 13, 14, 15, 16, 17, 18, 19, 20, 21, 22, 23, 24, 25, 26, 27, 28, 29, 30, 31, 32, 33, 34, 35, 36, 37, 38, 39, 40, 41, 42, 43, 44, 45, 46, 47, 48, 49, 50, 51, 52, 53, 54, 55, 56, 57, 58, 59, 60] ++ tp 61) (xTailC [0, 1, 2, 3, 4, 5, 6, 7, 8, 9, 10, 11, 12, 13, 14, 15, 16, 17, 18, 19, 20, 21, 22, 23, 24, 25, 26, 27, 28, 29, 30, 31, 32, 33, 34, 35, 36, 37, 38, 39, 40, 41, 42, 43, 44, 45, 46, 47, 48, 49, 50, 51, 52, 53, 54, 55, 56, 57, 58, 59, 60] rfl rfl) (by decide +kernel) (q0 := 0) rfl rfl rfl rfl rfl hl.1 rfl (lv_room (Nat.le_of_ble_eq_true rfl)) dX12_post_17 ⟨by rw [← erm]; exact Nat.le_of_ble_eq_true rfl, by rw [← erm]; exact Nat.le_of_ble_eq_true rfl⟩) hP hD hS hA ([0, 1, 2, 3, 4, 5, 6, 7, 8, 9, 10, 11, 12, 13, 14, 15, 16, 17, 18, 19, 20, 21, 22, 23, 24, 25, 26, 27, 28, 29, 30, 31, 32, 33, 34, 35, 36, 37, 38, 39, 40, 41, 42, 43, 44, 45, 46, 47, 48, 49, 50, 51, 52, 53, 54, 55, 56, 57, 58, 59, 60] ++ tp 61) (xTailC [0, 1, 2, 3, 4, 5, 6, 7, 8, 9, 10, 11, 12, 13, 14, 15, 16, 17, 18, 19, 20, 21, 22, 23, 24, 25, 26, 27, 28, 29, 30, 31, 32, 33, 34, 35, 36, 37, 38, 39, 40, 41, 42, 43, 44, 45, 46, 47, 48, 49, 50, 51, 52, 53, 54, 55, 56, 57, 58, 59, 60] rfl rfl) (xTailF rfl) (xT2 (F := 61) [0, 1, 2, 3, 4, 5, 6, 7, 8, 9, 10, 11, 12, 13, 14, 15, 16, 17, 18, 19, 20, 21, 22, 23, 24, 25, 26, 27, 28, 29, 30, 31, 32, 33, 34, 35, 36, 37, 38, 39, 40, 41, 42, 43, 44, 45, 46, 47, 48, 49, 50, 51, 52, 53, 54, 55, 56, 57, 58, 59, 60] (xselH [some 0, some 1, some 2, some 3, some 4, some 5, some 6, some 7, some 8, some 9, some 10, some 11, some 12, some 13, some 14, some 15, some 16, some 17, some 18, some 19, some 20, some 21, some 22, some 23, some 24, some 25, some 26, some 27, some 28, some 29, some 30, some 31, some 32, some 33, some 34, some 35, some 36, some 37, some 38, some 39, some 40, some 41, some 42, some 43, some 44, some 45, some 46, some 47, some 48, some 49, some 50, some 51, some 52, some 53, some 54, some 55, some 56, some 57, some 58, some 59, some 60] rfl (by decide +kernel)) rfl rfl rfl) (fun H locs hP hD hS => ?_)
  refine lv_aload_n hx hb dX12_post_20 rfl (lv_at hl 0 rfl) ?_
  refine va_get (D := D) (ci := 11) (v := .ref (h0 1)) (C := RX12) (T := TX12) (N := 10) hx hb hts iX12 hown hK hP 0 rfl rfl 0 (by decide) (hts _ qfl_X12_10) (fun _ h9 => h9) rfl dX12_post_21 ?_
  refine lv_iload_n hx hb dX12_post_24 rfl (lv_at hl 1 rfl) ?_
  refine lv_iload_n hx hb dX12_post_25 rfl (lv_at hl 2 rfl) ?_
  refine lv_iload_n hx hb dX12_post_26 rfl (lv_at hl 3 rfl) ?_
  refine lv_i2l hx hb dX12_post_27 rfl ?_
  obtain ⟨q4, c4, h⟩ := x_call h
  refine xCallH (w2 := ThlW cA ad hr h0 ((Thls0 q3.1 q4.2)) ++ RowW cA hr q3.2) (zRunV (n := 3) (As := [.int a1, .int a2, .long (a3.toInt64)]) (rest := []) ⟨hx, hb, hml, hown, hts⟩ (kX3_makeEntry l D cA ad (fun k => h0 (k + 1)) _ N a1 a2 (a3.toInt64) q3.1.1 q4 c4) qco_X3_makeEntry qml_X12_84 qin_X3_makeEntry qse_X3_makeEntry qini_X3 (by decide +kernel) (by rw [← erm]; rfl) hN hE hS hA hK hP hD [1, 2, 3, 4, 5, 6, 7, 8, 9, 10, 11, 12, 13, 14, 15, 16, 17, 18, 19, 20, 21, 22, 23, 24, 25] rfl rfl (q0 := 0) rfl rfl rfl rfl rfl hl.1 rfl (lv_room (Nat.le_of_ble_eq_true rfl)) dX12_post_28 ⟨by rw [← erm]; exact Nat.le_of_ble_eq_true rfl, by rw [← erm]; exact Nat.le_of_ble_eq_true rfl⟩) hP hD hS hA [1, 2, 3, 4, 5, 6, 7, 8, 9, 10, 11, 12, 13, 14, 15, 16, 17, 18, 19, 20, 21, 22, 23, 24, 25] rfl rfl (xR2 (F := 61) [1, 2, 3, 4, 5, 6, 7, 8, 9, 10, 11, 12, 13, 14, 15, 16, 17, 18, 19, 20, 21, 22, 23, 24, 25] (xselH [none, some 0, some 1, some 2, some 3, some 4, some 5, some 6, some 7, some 8, some 9, some 10, some 11, some 12, some 13, some 14, some 15, some 16, some 17, some 18, some 19, some 20, some 21, some 22, some 23, some 24, none, none, none, none, none, none, none, none, none, none, none, none, none, none, none, none, none, none, none, none, none, none, none, none, none, none, none, none, none, none, none, none, none, none, none] rfl (by decide +kernel)) rfl rfl (by decide +kernel)) (fun H locs hP hD hS => ?_)
  have h := Option.some.inj h
  subst h
  refine W.widen (k := 1) (n := 6) (Nat.le_of_ble_eq_true rfl) (Nat.le_of_ble_eq_true rfl) ?_
  exact vIret hx hb hr9 hlocks hP hK hD hS dX12_post_31
def fX12_reverse (N : Nat) (a1 : Int32) (s0 : ThlS) (s1 : (Nat → BooS)) : Option (Nat × Int32 × ThlS × (Nat → BooS)) :=
  xcall (fX6_faultOfReversal N a1 s0.1.2.1) fun q1 =>
  xcall (fX12_refuse N q1) fun q2 =>
  xthr q2 (some (q2, 0, s0, s1)) <|
  xcall (fX12_record N s0 s1) fun q3 =>
  xcall (fX3_makeReversal N a1 q3.1.1) fun q4 =>
  some (0, q4.1, (Thls0 q3.1 q4.2), q3.2)
set_option maxRecDepth 100000 in
set_option maxHeartbeats 4000000 in
theorem kX12_reverse (l : Launch) (hl9 : l.stackTraces = false) (D : va_G) (cA : Nat → ClassId) (ad : Nat → Nat) (hr : Nat → Nat → Nat) (h0 : Nat → Nat) (sz N : Nat) (a1 : Int32) (s0 : ThlS) (s1 : (Nat → BooS)) (q : Nat × Int32 × ThlS × (Nat → BooS)) (h : fX12_reverse N a1 s0 s1 = some q) : vM l yX12_reverse cX12_reverse 2 (some .int) ({ frames := 7, cells := 1, slots := 6, locals := 123 }) D cA ad (ThlW cA ad hr h0 s0 ++ RowW cA hr s1) sz [.ref (h0 0), .int a1] q.1 (some (.int q.2.1)) (ThlW cA ad hr h0 q.2.2.1 ++ RowW cA hr q.2.2.2) 1 6 := by
  generalize erm : ({ frames := 7, cells := 1, slots := 6, locals := 123 } : Room) = rm
  refine vMet (by decide) (Nat.le_of_ble_eq_true rfl) ?_
  intro p e s m below meth c hx hb hr9 hlocks hml hts hown hin hK hP A eA hD hS hA hsz hN hE hV htab ls hl
  have hl : lv_has ls 2 [(0, .ref (h0 0)), (1, .int a1)] := hl
  clear eA
  rw [fX12_reverse] at h
  refine lv_aload_n hx hb dX12_reverse_0 rfl (lv_at hl 0 rfl) ?_
  refine va_get (D := D) (ci := 11) (v := .ref (h0 1)) (C := RX12) (T := TX12) (N := 10) hx hb hts iX12 hown hK hP 0 rfl rfl 0 (by decide) (hts _ qfl_X12_10) (fun _ h9 => h9) rfl dX12_reverse_1 ?_
  refine va_getN (D := D) (ci := 4) (v := .ref (h0 7)) (C := RX3) (T := TX3) (N := 7) hx hb hts iX3 hown hK hP 1 rfl rfl 1 (by decide) (hN.use qfn_X12_88) (fun _ h9 => h9) rfl dX12_reverse_4 ?_
  refine lv_iload_n hx hb dX12_reverse_7 rfl (lv_at hl 1 rfl) ?_
  obtain ⟨q1, c1, h⟩ := x_call h
  refine xCallH (w2 := ThlW cA ad hr h0 s0 ++ RowW cA hr s1) (zRunV (n := 1) (As := [.int a1]) (rest := []) ⟨hx, hb, hml, hown, hts⟩ (kX6_faultOfReversal l D cA ad (fun k => h0 (k + 7)) _ N a1 s0.1.2.1 q1 c1) qco_X6_faultOfReversal qml_X12_92 qin_X6_faultOfReversal qse_X6_faultOfReversal qini_X6 (by decide +kernel) (by rw [← erm]; rfl) hN hE hS hA hK hP hD [7, 8, 9, 10, 11, 12] rfl rfl (q0 := 0) rfl rfl rfl rfl rfl hl.1 rfl (lv_room (Nat.le_of_ble_eq_true rfl)) dX12_reverse_8 ⟨Nat.zero_le _, Nat.zero_le _⟩) hP hD hS hA [7, 8, 9, 10, 11, 12] rfl rfl (xR2 (F := 61) [7, 8, 9, 10, 11, 12] (xselH [none, none, none, none, none, none, none, some 0, some 1, some 2, some 3, some 4, some 5, none, none, none, none, none, none, none, none, none, none, none, none, none, none, none, none, none, none, none, none, none, none, none, none, none, none, none, none, none, none, none, none, none, none, none, none, none, none, none, none, none, none, none, none, none, none, none, none] rfl (by decide +kernel)) rfl rfl (by decide +kernel)) (fun H locs hP hD hS => ?_)
  obtain ⟨q2, c2, h⟩ := x_call h
  refine vCall (w2 := ThlW cA ad hr h0 s0 ++ RowW cA hr s1) (vRunS (n := 1) (As := [.ref (ad q1)]) (rest := []) ⟨hx, hb, hml, hown, hts⟩ (kX12_refuse l hl9 D cA ad  _ N q1 q2 c2) qco_X12_refuse qml_X12_61 qst_X12_refuse qini_X12 (by decide +kernel) (by rw [← erm]; rfl) hN hE hV hS hA hK hP hD [] rfl rfl rfl rfl hl.1 rfl (lv_room (Nat.le_of_ble_eq_true rfl)) dX12_reverse_11 ⟨by rw [← erm]; exact Nat.le_of_ble_eq_true rfl, by rw [← erm]; exact Nat.le_of_ble_eq_true rfl⟩) hP hD hS hA [] rfl rfl (xR2 (F := 61) [] (xselH [none, none, none, none, none, none, none, none, none, none, none, none, none, none, none, none, none, none, none, none, none, none, none, none, none, none, none, none, none, none, none, none, none, none, none, none, none, none, none, none, none, none, none, none, none, none, none, none, none, none, none, none, none, none, none, none, none, none, none, none, none] rfl (by decide +kernel)) rfl rfl (by decide +kernel)) (fun x2 q9 ce H locs hP hD hS hc1 hc2 hc3 => ?_) (fun x2 H locs hP hD hS => ?_)
  · have h := x_th1 h x2
    have h := Option.some.inj h
    subst h
    exact vOut (x := q2) htab hlocks hK hP hD hS x2 hc1 hc2 hc3 (Nat.le_of_ble_eq_true rfl) (Nat.le_of_ble_eq_true rfl)
  have h := x_th0 h x2
  refine lv_aload_n hx hb dX12_reverse_14 rfl (lv_at hl 0 rfl) ?_
  obtain ⟨q3, c3, h⟩ := x_call h
  refine xCallH (w2 := ThlW cA ad hr h0 q3.1 ++ RowW cA hr q3.2) (zRunV (n := 0) (As := []) (rest := []) ⟨hx, hb, hml, hown, hts⟩ (kX12_record l D cA ad hr h0 _ N s0 s1 q3 c3) qco_X12_record qml_X12_65 qin_X12_record qse_X12_record qini_X12 (by decide +kernel) (by rw [← erm]; rfl) hN hE hS hA hK hP hD ([0, 1, 2, 3, 4, 5, 6, 7, 8, 9, 10, 11, 12, 13, 14, 15, 16, 17, 18, 19, 20, 21, 22, 23, 24, 25, 26, 27, 28, 29, 30, 31, 32, 33, 34, 35, 36, 37, 38, 39, 40, 41, 42, 43, 44, 45, 46, 47, 48, 49, 50, 51, 52, 53, 54, 55, 56, 57, 58, 59, 60] ++ tp 61) (xTailC [0, 1, 2, 3, 4, 5, 6, 7, 8, 9, 10, 11, 12, 13, 14, 15, 16, 17, 18, 19, 20, 21, 22, 23, 24, 25, 26, 27, 28, 29, 30, 31, 32, 33, 34, 35, 36, 37, 38, 39, 40, 41, 42, 43, 44, 45, 46, 47, 48, 49, 50, 51, 52, 53, 54, 55, 56, 57, 58, 59, 60] rfl rfl) (by decide +kernel) (q0 := 0) rfl rfl rfl rfl rfl hl.1 rfl (lv_room (Nat.le_of_ble_eq_true rfl)) dX12_reverse_15 ⟨by rw [← erm]; exact Nat.le_of_ble_eq_true rfl, by rw [← erm]; exact Nat.le_of_ble_eq_true rfl⟩) hP hD hS hA ([0, 1, 2, 3, 4, 5, 6, 7, 8, 9, 10, 11, 12, 13, 14, 15, 16, 17, 18, 19, 20, 21, 22, 23, 24, 25, 26, 27, 28, 29, 30, 31, 32, 33, 34, 35, 36, 37, 38, 39, 40, 41, 42, 43, 44, 45, 46, 47, 48, 49, 50, 51, 52, 53, 54, 55, 56, 57, 58, 59, 60] ++ tp 61) (xTailC [0, 1, 2, 3, 4, 5, 6, 7, 8, 9, 10, 11, 12, 13, 14, 15, 16, 17, 18, 19, 20, 21, 22, 23, 24, 25, 26, 27, 28, 29, 30, 31, 32, 33, 34, 35, 36, 37, 38, 39, 40, 41, 42, 43, 44, 45, 46, 47, 48, 49, 50, 51, 52, 53, 54, 55, 56, 57, 58, 59, 60] rfl rfl) (xTailF rfl) (xT2 (F := 61) [0, 1, 2, 3, 4, 5, 6, 7, 8, 9, 10, 11, 12, 13, 14, 15, 16, 17, 18, 19, 20, 21, 22, 23, 24, 25, 26, 27, 28, 29, 30, 31, 32, 33, 34, 35, 36, 37, 38, 39, 40, 41, 42, 43, 44, 45, 46, 47, 48, 49, 50, 51, 52, 53, 54, 55, 56, 57, 58, 59, 60] (xselH [some 0, some 1, some 2, some 3, some 4, some 5, some 6, some 7, some 8, some 9, some 10, some 11, some 12, some 13, some 14, some 15, some 16, some 17, some 18, some 19, some 20, some 21, some 22, some 23, some 24, some 25, some 26, some 27, some 28, some 29, some 30, some 31, some 32, some 33, some 34, some 35, some 36, some 37, some 38, some 39, some 40, some 41, some 42, some 43, some 44, some 45, some 46, some 47, some 48, some 49, some 50, some 51, some 52, some 53, some 54, some 55, some 56, some 57, some 58, some 59, some 60] rfl (by decide +kernel)) rfl rfl rfl) (fun H locs hP hD hS => ?_)
  refine lv_aload_n hx hb dX12_reverse_18 rfl (lv_at hl 0 rfl) ?_
  refine va_get (D := D) (ci := 11) (v := .ref (h0 1)) (C := RX12) (T := TX12) (N := 10) hx hb hts iX12 hown hK hP 0 rfl rfl 0 (by decide) (hts _ qfl_X12_10) (fun _ h9 => h9) rfl dX12_reverse_19 ?_
  refine lv_iload_n hx hb dX12_reverse_22 rfl (lv_at hl 1 rfl) ?_
  obtain ⟨q4, c4, h⟩ := x_call h
  refine xCallH (w2 := ThlW cA ad hr h0 ((Thls0 q3.1 q4.2)) ++ RowW cA hr q3.2) (zRunV (n := 1) (As := [.int a1]) (rest := []) ⟨hx, hb, hml, hown, hts⟩ (kX3_makeReversal l D cA ad (fun k => h0 (k + 1)) _ N a1 q3.1.1 q4 c4) qco_X3_makeReversal qml_X12_97 qin_X3_makeReversal qse_X3_makeReversal qini_X3 (by decide +kernel) (by rw [← erm]; rfl) hN hE hS hA hK hP hD [1, 2, 3, 4, 5, 6, 7, 8, 9, 10, 11, 12, 13, 14, 15, 16, 17, 18, 19, 20, 21, 22, 23, 24, 25] rfl rfl (q0 := 0) rfl rfl rfl rfl rfl hl.1 rfl (lv_room (Nat.le_of_ble_eq_true rfl)) dX12_reverse_23 ⟨by rw [← erm]; exact Nat.le_of_ble_eq_true rfl, by rw [← erm]; exact Nat.le_of_ble_eq_true rfl⟩) hP hD hS hA [1, 2, 3, 4, 5, 6, 7, 8, 9, 10, 11, 12, 13, 14, 15, 16, 17, 18, 19, 20, 21, 22, 23, 24, 25] rfl rfl (xR2 (F := 61) [1, 2, 3, 4, 5, 6, 7, 8, 9, 10, 11, 12, 13, 14, 15, 16, 17, 18, 19, 20, 21, 22, 23, 24, 25] (xselH [none, some 0, some 1, some 2, some 3, some 4, some 5, some 6, some 7, some 8, some 9, some 10, some 11, some 12, some 13, some 14, some 15, some 16, some 17, some 18, some 19, some 20, some 21, some 22, some 23, some 24, none, none, none, none, none, none, none, none, none, none, none, none, none, none, none, none, none, none, none, none, none, none, none, none, none, none, none, none, none, none, none, none, none, none, none] rfl (by decide +kernel)) rfl rfl (by decide +kernel)) (fun H locs hP hD hS => ?_)
  have h := Option.some.inj h
  subst h
  refine W.widen (k := 1) (n := 6) (Nat.le_of_ble_eq_true rfl) (Nat.le_of_ble_eq_true rfl) ?_
  exact vIret hx hb hr9 hlocks hP hK hD hS dX12_reverse_26
def fX12_prompt (N : Nat) (a1 : Int32) (a2 : Int32) (a3 : Int32) (a4 : Int32) (a5 : Int32) (s0 : ThlS) (s1 : (Nat → BooS)) : Option (Nat × Int32 × ThlS × (Nat → BooS)) :=
  xcall (fX1_faultOfEntry N a1 a2 a3 s0.1.1) fun q1 =>
  xcall (fX12_refuse N q1) fun q2 =>
  xthr q2 (some (q2, 0, s0, s1)) <|
  xcall (fX8_faultOfNew N a4 a5 s0.1.2.2.1) fun q3 =>
  xcall (fX12_refuse N q3) fun q4 =>
  xthr q4 (some (q4, 0, s0, s1)) <|
  xcall (fX12_record N s0 s1) fun q5 =>
  xcall (fX8_add N a1 a2 a3 a4 a5 q5.1.1.2.2.1) fun q6 =>
  some (0, q6.1, (Thls0 q5.1 ((Boos2 q5.1.1 q6.2))), q5.2)
set_option maxRecDepth 100000 in
set_option maxHeartbeats 4000000 in
theorem kX12_prompt (l : Launch) (hl9 : l.stackTraces = false) (D : va_G) (cA : Nat → ClassId) (ad : Nat → Nat) (hr : Nat → Nat → Nat) (h0 : Nat → Nat) (sz N : Nat) (a1 : Int32) (a2 : Int32) (a3 : Int32) (a4 : Int32) (a5 : Int32) (s0 : ThlS) (s1 : (Nat → BooS)) (q : Nat × Int32 × ThlS × (Nat → BooS)) (h : fX12_prompt N a1 a2 a3 a4 a5 s0 s1 = some q) : vM l yX12_prompt cX12_prompt 6 (some .int) ({ frames := 7, cells := 2, slots := 12, locals := 123 }) D cA ad (ThlW cA ad hr h0 s0 ++ RowW cA hr s1) sz [.ref (h0 0), .int a1, .int a2, .int a3, .int a4, .int a5] q.1 (some (.int q.2.1)) (ThlW cA ad hr h0 q.2.2.1 ++ RowW cA hr q.2.2.2) 2 12 := by
  generalize erm : ({ frames := 7, cells := 2, slots := 12, locals := 123 } : Room) = rm
  refine vMet (by decide) (Nat.le_of_ble_eq_true rfl) ?_
  intro p e s m below meth c hx hb hr9 hlocks hml hts hown hin hK hP A eA hD hS hA hsz hN hE hV htab ls hl
  have hl : lv_has ls 6 [(0, .ref (h0 0)), (1, .int a1), (2, .int a2), (3, .int a3), (4, .int a4), (5, .int a5)] := hl
  clear eA
  rw [fX12_prompt] at h
  refine lv_aload_n hx hb dX12_prompt_0 rfl (lv_at hl 0 rfl) ?_
  refine va_get (D := D) (ci := 11) (v := .ref (h0 1)) (C := RX12) (T := TX12) (N := 10) hx hb hts iX12 hown hK hP 0 rfl rfl 0 (by decide) (hts _ qfl_X12_10) (fun _ h9 => h9) rfl dX12_prompt_1 ?_
  refine va_getN (D := D) (ci := 4) (v := .ref (h0 2)) (C := RX3) (T := TX3) (N := 7) hx hb hts iX3 hown hK hP 1 rfl rfl 0 (by decide) (hN.use qfn_X12_51) (fun _ h9 => h9) rfl dX12_prompt_4 ?_
  refine lv_iload_n hx hb dX12_prompt_7 rfl (lv_at hl 1 rfl) ?_
  refine lv_iload_n hx hb dX12_prompt_8 rfl (lv_at hl 2 rfl) ?_
  refine lv_iload_n hx hb dX12_prompt_9 rfl (lv_at hl 3 rfl) ?_
  obtain ⟨q1, c1, h⟩ := x_call h
  refine xCallH (w2 := ThlW cA ad hr h0 s0 ++ RowW cA hr s1) (zRunV (n := 3) (As := [.int a1, .int a2, .int a3]) (rest := []) ⟨hx, hb, hml, hown, hts⟩ (kX1_faultOfEntry l D cA ad (fun k => h0 (k + 2)) _ N a1 a2 a3 s0.1.1 q1 c1) qco_X1_faultOfEntry qml_X12_80 qin_X1_faultOfEntry qse_X1_faultOfEntry qini_X1 (by decide +kernel) (by rw [← erm]; rfl) hN hE hS hA hK hP hD [2, 3, 4, 5, 6] rfl rfl (q0 := 0) rfl rfl rfl rfl rfl hl.1 rfl (lv_room (Nat.le_of_ble_eq_true rfl)) dX12_prompt_10 ⟨Nat.zero_le _, Nat.zero_le _⟩) hP hD hS hA [2, 3, 4, 5, 6] rfl rfl (xR2 (F := 61) [2, 3, 4, 5, 6] (xselH [none, none, some 0, some 1, some 2, some 3, some 4, none, none, none, none, none, none, none, none, none, none, none, none, none, none, none, none, none, none, none, none, none, none, none, none, none, none, none, none, none, none, none, none, none, none, none, none, none, none, none, none, none, none, none, none, none, none, none, none, none, none, none, none, none, none] rfl (by decide +kernel)) rfl rfl (by decide +kernel)) (fun H locs hP hD hS => ?_)
  obtain ⟨q2, c2, h⟩ := x_call h
  refine vCall (w2 := ThlW cA ad hr h0 s0 ++ RowW cA hr s1) (vRunS (n := 1) (As := [.ref (ad q1)]) (rest := []) ⟨hx, hb, hml, hown, hts⟩ (kX12_refuse l hl9 D cA ad  _ N q1 q2 c2) qco_X12_refuse qml_X12_61 qst_X12_refuse qini_X12 (by decide +kernel) (by rw [← erm]; rfl) hN hE hV hS hA hK hP hD [] rfl rfl rfl rfl hl.1 rfl (lv_room (Nat.le_of_ble_eq_true rfl)) dX12_prompt_13 ⟨by rw [← erm]; exact Nat.le_of_ble_eq_true rfl, by rw [← erm]; exact Nat.le_of_ble_eq_true rfl⟩) hP hD hS hA [] rfl rfl (xR2 (F := 61) [] (xselH [none, none, none, none, none, none, none, none, none, none, none, none, none, none, none, none, none, none, none, none, none, none, none, none, none, none, none, none, none, none, none, none, none, none, none, none, none, none, none, none, none, none, none, none, none, none, none, none, none, none, none, none, none, none, none, none, none, none, none, none, none] rfl (by decide +kernel)) rfl rfl (by decide +kernel)) (fun x2 q9 ce H locs hP hD hS hc1 hc2 hc3 => ?_) (fun x2 H locs hP hD hS => ?_)
  · have h := x_th1 h x2
    have h := Option.some.inj h
    subst h
    exact vOut (x := q2) htab hlocks hK hP hD hS x2 hc1 hc2 hc3 (Nat.le_of_ble_eq_true rfl) (Nat.le_of_ble_eq_true rfl)
  have h := x_th0 h x2
  refine lv_aload_n hx hb dX12_prompt_16 rfl (lv_at hl 0 rfl) ?_
  refine va_get (D := D) (ci := 11) (v := .ref (h0 1)) (C := RX12) (T := TX12) (N := 10) hx hb hts iX12 hown hK hP 0 rfl rfl 0 (by decide) (hts _ qfl_X12_10) (fun _ h9 => h9) rfl dX12_prompt_17 ?_
  refine va_getN (D := D) (ci := 4) (v := .ref (h0 13)) (C := RX3) (T := TX3) (N := 7) hx hb hts iX3 hown hK hP 1 rfl rfl 2 (by decide) (hN.use qfn_X12_101) (fun _ h9 => h9) rfl dX12_prompt_20 ?_
  refine lv_iload hx hb dX12_prompt_23 (lv_at hl 4 rfl) ?_
  refine lv_iload hx hb dX12_prompt_25 (lv_at hl 5 rfl) ?_
  obtain ⟨q3, c3, h⟩ := x_call h
  refine xCallH (w2 := ThlW cA ad hr h0 s0 ++ RowW cA hr s1) (zRunV (n := 2) (As := [.int a4, .int a5]) (rest := []) ⟨hx, hb, hml, hown, hts⟩ (kX8_faultOfNew l D cA ad (fun k => h0 (k + 13)) _ N a4 a5 s0.1.2.2.1 q3 c3) qco_X8_faultOfNew qml_X12_105 qin_X8_faultOfNew qse_X8_faultOfNew qini_X8 (by decide +kernel) (by rw [← erm]; rfl) hN hE hS hA hK hP hD [13, 14, 15, 16, 17, 18, 19] rfl rfl (q0 := 0) rfl rfl rfl rfl rfl hl.1 rfl (lv_room (Nat.le_of_ble_eq_true rfl)) dX12_prompt_27 ⟨by rw [← erm]; exact Nat.le_of_ble_eq_true rfl, by rw [← erm]; exact Nat.le_of_ble_eq_true rfl⟩) hP hD hS hA [13, 14, 15, 16, 17, 18, 19] rfl rfl (xR2 (F := 61) [13, 14, 15, 16, 17, 18, 19] (xselH [none, none, none, none, none, none, none, none, none, none, none, none, none, some 0, some 1, some 2, some 3, some 4, some 5, some 6, none, none, none, none, none, none, none, none, none, none, none, none, none, none, none, none, none, none, none, none, none, none, none, none, none, none, none, none, none, none, none, none, none, none, none, none, none, none, none, none, none] rfl (by decide +kernel)) rfl rfl (by decide +kernel)) (fun H locs hP hD hS => ?_)
  obtain ⟨q4, c4, h⟩ := x_call h
  refine vCall (w2 := ThlW cA ad hr h0 s0 ++ RowW cA hr s1) (vRunS (n := 1) (As := [.ref (ad q3)]) (rest := []) ⟨hx, hb, hml, hown, hts⟩ (kX12_refuse l hl9 D cA ad  _ N q3 q4 c4) qco_X12_refuse qml_X12_61 qst_X12_refuse qini_X12 (by decide +kernel) (by rw [← erm]; rfl) hN hE hV hS hA hK hP hD [] rfl rfl rfl rfl hl.1 rfl (lv_room (Nat.le_of_ble_eq_true rfl)) dX12_prompt_30 ⟨by rw [← erm]; exact Nat.le_of_ble_eq_true rfl, by rw [← erm]; exact Nat.le_of_ble_eq_true rfl⟩) hP hD hS hA [] rfl rfl (xR2 (F := 61) [] (xselH [none, none, none, none, none, none, none, none, none, none, none, none, none, none, none, none, none, none, none, none, none, none, none, none, none, none, none, none, none, none, none, none, none, none, none, none, none, none, none, none, none, none, none, none, none, none, none, none, none, none, none, none, none, none, none, none, none, none, none, none, none] rfl (by decide +kernel)) rfl rfl (by decide +kernel)) (fun x4 q9 ce H locs hP hD hS hc1 hc2 hc3 => ?_) (fun x4 H locs hP hD hS => ?_)
  · have h := x_th1 h x4
    have h := Option.some.inj h
    subst h
    exact vOut (x := q4) htab hlocks hK hP hD hS x4 hc1 hc2 hc3 (Nat.le_of_ble_eq_true rfl) (Nat.le_of_ble_eq_true rfl)
  have h := x_th0 h x4
  refine lv_aload_n hx hb dX12_prompt_33 rfl (lv_at hl 0 rfl) ?_
  obtain ⟨q5, c5, h⟩ := x_call h
  refine xCallH (w2 := ThlW cA ad hr h0 q5.1 ++ RowW cA hr q5.2) (zRunV (n := 0) (As := []) (rest := []) ⟨hx, hb, hml, hown, hts⟩ (kX12_record l D cA ad hr h0 _ N s0 s1 q5 c5) qco_X12_record qml_X12_65 qin_X12_record qse_X12_record qini_X12 (by decide +kernel) (by rw [← erm]; rfl) hN hE hS hA hK hP hD ([0, 1, 2, 3, 4, 5, 6, 7, 8, 9, 10, 11, 12, 13, 14, 15, 16, 17, 18, 19, 20, 21, 22, 23, 24, 25, 26, 27, 28, 29, 30, 31, 32, 33, 34, 35, 36, 37, 38, 39, 40, 41, 42, 43, 44, 45, 46, 47, 48, 49, 50, 51, 52, 53, 54, 55, 56, 57, 58, 59, 60] ++ tp 61) (xTailC [0, 1, 2, 3, 4, 5, 6, 7, 8, 9, 10, 11, 12, 13, 14, 15, 16, 17, 18, 19, 20, 21, 22, 23, 24, 25, 26, 27, 28, 29, 30, 31, 32, 33, 34, 35, 36, 37, 38, 39, 40, 41, 42, 43, 44, 45, 46, 47, 48, 49, 50, 51, 52, 53, 54, 55, 56, 57, 58, 59, 60] rfl rfl) (by decide +kernel) (q0 := 0) rfl rfl rfl rfl rfl hl.1 rfl (lv_room (Nat.le_of_ble_eq_true rfl)) dX12_prompt_34 ⟨by rw [← erm]; exact Nat.le_of_ble_eq_true rfl, by rw [← erm]; exact Nat.le_of_ble_eq_true rfl⟩) hP hD hS hA ([0, 1, 2, 3, 4, 5, 6, 7, 8, 9, 10, 11, 12, 13, 14, 15, 16, 17, 18, 19, 20, 21, 22, 23, 24, 25, 26, 27, 28, 29, 30, 31, 32, 33, 34, 35, 36, 37, 38, 39, 40, 41, 42, 43, 44, 45, 46, 47, 48, 49, 50, 51, 52, 53, 54, 55, 56, 57, 58, 59, 60] ++ tp 61) (xTailC [0, 1, 2, 3, 4, 5, 6, 7, 8, 9, 10, 11, 12, 13, 14, 15, 16, 17, 18, 19, 20, 21, 22, 23, 24, 25, 26, 27, 28, 29, 30, 31, 32, 33, 34, 35, 36, 37, 38, 39, 40, 41, 42, 43, 44, 45, 46, 47, 48, 49, 50, 51, 52, 53, 54, 55, 56, 57, 58, 59, 60] rfl rfl) (xTailF rfl) (xT2 (F := 61) [0, 1, 2, 3, 4, 5, 6, 7, 8, 9, 10, 11, 12, 13, 14, 15, 16, 17, 18, 19, 20, 21, 22, 23, 24, 25, 26, 27, 28, 29, 30, 31, 32, 33, 34, 35, 36, 37, 38, 39, 40, 41, 42, 43, 44, 45, 46, 47, 48, 49, 50, 51, 52, 53, 54, 55, 56, 57, 58, 59, 60] (xselH [some 0, some 1, some 2, some 3, some 4, some 5, some 6, some 7, some 8, some 9, some 10, some 11, some 12, some 13, some 14, some 15, some 16, some 17, some 18, some 19, some 20, some 21, some 22, some 23, some 24, some 25, some 26, some 27, some 28, some 29, some 30, some 31, some 32, some 33, some 34, some 35, some 36, some 37, some 38, some 39, some 40, some 41, some 42, some 43, some 44, some 45, some 46, some 47, some 48, some 49, some 50, some 51, some 52, some 53, some 54, some 55, some 56, some 57, some 58, some 59, some 60] rfl (by decide +kernel)) rfl rfl rfl) (fun H locs hP hD hS => ?_)
  refine lv_aload_n hx hb dX12_prompt_37 rfl (lv_at hl 0 rfl) ?_
  refine va_get (D := D) (ci := 11) (v := .ref (h0 1)) (C := RX12) (T := TX12) (N := 10) hx hb hts iX12 hown hK hP 0 rfl rfl 0 (by decide) (hts _ qfl_X12_10) (fun _ h9 => h9) rfl dX12_prompt_38 ?_
  refine va_getN (D := D) (ci := 4) (v := .ref (h0 13)) (C := RX3) (T := TX3) (N := 7) hx hb hts iX3 hown hK hP 1 rfl rfl 2 (by decide) (hN.use qfn_X12_101) (fun _ h9 => h9) rfl dX12_prompt_41 ?_
  refine lv_iload_n hx hb dX12_prompt_44 rfl (lv_at hl 1 rfl) ?_
  refine lv_iload_n hx hb dX12_prompt_45 rfl (lv_at hl 2 rfl) ?_
  refine lv_iload_n hx hb dX12_prompt_46 rfl (lv_at hl 3 rfl) ?_
  refine lv_iload hx hb dX12_prompt_47 (lv_at hl 4 rfl) ?_
  refine lv_iload hx hb dX12_prompt_49 (lv_at hl 5 rfl) ?_
  obtain ⟨q6, c6, h⟩ := x_call h
  refine xCallH (w2 := ThlW cA ad hr h0 ((Thls0 q5.1 ((Boos2 q5.1.1 q6.2)))) ++ RowW cA hr q5.2) (zRunV (n := 5) (As := [.int a1, .int a2, .int a3, .int a4, .int a5]) (rest := []) ⟨hx, hb, hml, hown, hts⟩ (kX8_add l D cA ad (fun k => h0 (k + 13)) _ N a1 a2 a3 a4 a5 q5.1.1.2.2.1 q6 c6) qco_X8_add qml_X12_110 qin_X8_add qse_X8_add qini_X8 (by decide +kernel) (by rw [← erm]; rfl) hN hE hS hA hK hP hD [13, 14, 15, 16, 17, 18, 19] rfl rfl (q0 := 0) rfl rfl rfl rfl rfl hl.1 rfl (lv_room (Nat.le_of_ble_eq_true rfl)) dX12_prompt_51 ⟨by rw [← erm]; exact Nat.le_of_ble_eq_true rfl, by rw [← erm]; exact Nat.le_of_ble_eq_true rfl⟩) hP hD hS hA [13, 14, 15, 16, 17, 18, 19] rfl rfl (xR2 (F := 61) [13, 14, 15, 16, 17, 18, 19] (xselH [none, none, none, none, none, none, none, none, none, none, none, none, none, some 0, some 1, some 2, some 3, some 4, some 5, some 6, none, none, none, none, none, none, none, none, none, none, none, none, none, none, none, none, none, none, none, none, none, none, none, none, none, none, none, none, none, none, none, none, none, none, none, none, none, none, none, none, none] rfl (by decide +kernel)) rfl rfl (by decide +kernel)) (fun H locs hP hD hS => ?_)
  have h := Option.some.inj h
  subst h
  refine W.widen (k := 2) (n := 12) (Nat.le_of_ble_eq_true rfl) (Nat.le_of_ble_eq_true rfl) ?_
  exact vIret hx hb hr9 hlocks hP hK hD hS dX12_prompt_54
def fX12_checkPrompt (N : Nat) (a1 : Int32) (s0 : ThlS) : Option (Nat) :=
  xcall (fX8_has N a1 s0.1.2.2.1) fun q1 =>
  if q1 = 0 then
    some 1
  else
    some 0
set_option maxRecDepth 100000 in
set_option maxHeartbeats 4000000 in
theorem kX12_checkPrompt (l : Launch) (hl9 : l.stackTraces = false) (D : va_G) (cA : Nat → ClassId) (ad : Nat → Nat) (hr : Nat → Nat → Nat) (h0 : Nat → Nat) (sz N : Nat) (a1 : Int32) (s0 : ThlS) (q : Nat) (h : fX12_checkPrompt N a1 s0 = some q) : vM l yX12_checkPrompt cX12_checkPrompt 2 none ({ frames := 6, cells := 1, slots := 6, locals := 90 }) D cA ad (ThlW cA ad hr h0 s0) sz [.ref (h0 0), .int a1] q (none) (ThlW cA ad hr h0 s0) 1 6 := by
  generalize erm : ({ frames := 6, cells := 1, slots := 6, locals := 90 } : Room) = rm
  refine vMet (by decide) (Nat.le_of_ble_eq_true rfl) ?_
  intro p e s m below meth c hx hb hr9 hlocks hml hts hown hin hK hP A eA hD hS hA hsz hN hE hV htab ls hl
  have hl : lv_has ls 2 [(0, .ref (h0 0)), (1, .int a1)] := hl
  clear eA
  rw [fX12_checkPrompt] at h
  refine lv_aload_n hx hb dX12_checkPrompt_0 rfl (lv_at hl 0 rfl) ?_
  refine va_get (D := D) (ci := 11) (v := .ref (h0 1)) (C := RX12) (T := TX12) (N := 10) hx hb hts iX12 hown hK hP 0 rfl rfl 0 (by decide) (hts _ qfl_X12_10) (fun _ h9 => h9) rfl dX12_checkPrompt_1 ?_
  refine va_getN (D := D) (ci := 4) (v := .ref (h0 13)) (C := RX3) (T := TX3) (N := 7) hx hb hts iX3 hown hK hP 1 rfl rfl 2 (by decide) (hN.use qfn_X12_101) (fun _ h9 => h9) rfl dX12_checkPrompt_4 ?_
  refine lv_iload_n hx hb dX12_checkPrompt_7 rfl (lv_at hl 1 rfl) ?_
  obtain ⟨q1, c1, h⟩ := x_call h
  refine xCallH (w2 := ThlW cA ad hr h0 s0) (zRunV (n := 1) (As := [.int a1]) (rest := []) ⟨hx, hb, hml, hown, hts⟩ (kX8_has l D cA ad (fun k => h0 (k + 13)) _ N a1 s0.1.2.2.1 q1 c1) qco_X8_has qml_X12_447 qin_X8_has qse_X8_has qini_X8 (by decide +kernel) (by rw [← erm]; rfl) hN hE hS hA hK hP hD [13, 14, 15, 16, 17, 18, 19] rfl rfl (q0 := 0) rfl rfl rfl rfl rfl hl.1 rfl (lv_room (Nat.le_of_ble_eq_true rfl)) dX12_checkPrompt_8 ⟨Nat.zero_le _, Nat.zero_le _⟩) hP hD hS hA [13, 14, 15, 16, 17, 18, 19] rfl rfl (xselH [none, none, none, none, none, none, none, none, none, none, none, none, none, some 0, some 1, some 2, some 3, some 4, some 5, some 6, none, none, none, none, none, none, none, none, none, none, none, none, none, none, none, none, none, none, none, none, none, none, none, none, none, none, none, none, none, none, none, none, none, none, none, none, none, none, none, none, none] rfl (by decide +kernel)) (fun H locs hP hD hS => ?_)
  refine lv_if_ne (tgt := 25) hx hb dX12_checkPrompt_11 (by decide) (fun c2 => ?_) (fun c2 => ?_)
  · have h := x_f h c2
    have h := Option.some.inj h
    subst h
    refine W.widen (k := 1) (n := 6) (Nat.le_of_ble_eq_true rfl) (Nat.le_of_ble_eq_true rfl) ?_
    exact vVret hx hb hr9 hlocks hP hK hD hS dX12_checkPrompt_25
  · have h := x_t h c2
    have h := Option.some.inj h
    subst h
    exact vThrowW (x := 1) (text := "no such prompt") (is := 448) hx hb hl9 hown hts hN hV hA (by decide) xThr1 xThg1 (by decide +kernel) hK hP hD hS (hl.1.trans hml.symm) dX12_checkPrompt_14 dX12_checkPrompt_17 dX12_checkPrompt_18 dX12_checkPrompt_21 dX12_checkPrompt_24 htab (by rw [← erm]; rfl) hlocks (by decide) (Nat.le_of_ble_eq_true rfl) (Nat.le_of_ble_eq_true rfl)
def fX12_cancelPrompt (N : Nat) (a1 : Int32) (s0 : ThlS) (s1 : (Nat → BooS)) : Option (Nat × Int32 × ThlS × (Nat → BooS)) :=
  xcall (fX12_checkPrompt N a1 s0) fun q1 =>
  xthr q1 (some (q1, 0, s0, s1)) <|
  xcall (fX12_record N s0 s1) fun q2 =>
  xcall (fX8_end N a1 q2.1.1.2.2.1) fun q3 =>
  some (0, q3.1, (Thls0 q2.1 ((Boos2 q2.1.1 q3.2))), q2.2)
set_option maxRecDepth 100000 in
set_option maxHeartbeats 4000000 in
theorem kX12_cancelPrompt (l : Launch) (hl9 : l.stackTraces = false) (D : va_G) (cA : Nat → ClassId) (ad : Nat → Nat) (hr : Nat → Nat → Nat) (h0 : Nat → Nat) (sz N : Nat) (a1 : Int32) (s0 : ThlS) (s1 : (Nat → BooS)) (q : Nat × Int32 × ThlS × (Nat → BooS)) (h : fX12_cancelPrompt N a1 s0 s1 = some q) : vM l yX12_cancelPrompt cX12_cancelPrompt 2 (some .int) ({ frames := 7, cells := 1, slots := 6, locals := 123 }) D cA ad (ThlW cA ad hr h0 s0 ++ RowW cA hr s1) sz [.ref (h0 0), .int a1] q.1 (some (.int q.2.1)) (ThlW cA ad hr h0 q.2.2.1 ++ RowW cA hr q.2.2.2) 1 6 := by
  generalize erm : ({ frames := 7, cells := 1, slots := 6, locals := 123 } : Room) = rm
  refine vMet (by decide) (Nat.le_of_ble_eq_true rfl) ?_
  intro p e s m below meth c hx hb hr9 hlocks hml hts hown hin hK hP A eA hD hS hA hsz hN hE hV htab ls hl
  have hl : lv_has ls 2 [(0, .ref (h0 0)), (1, .int a1)] := hl
  clear eA
  rw [fX12_cancelPrompt] at h
  refine lv_aload_n hx hb dX12_cancelPrompt_0 rfl (lv_at hl 0 rfl) ?_
  refine lv_iload_n hx hb dX12_cancelPrompt_1 rfl (lv_at hl 1 rfl) ?_
  obtain ⟨q1, c1, h⟩ := x_call h
  refine vCall (w2 := ThlW cA ad hr h0 s0 ++ RowW cA hr s1) (vRunV (n := 1) (As := [.int a1]) (rest := []) ⟨hx, hb, hml, hown, hts⟩ (kX12_checkPrompt l hl9 D cA ad hr h0 _ N a1 s0 q1 c1) qco_X12_checkPrompt qml_X12_113 qin_X12_checkPrompt qse_X12_checkPrompt qini_X12 (by decide +kernel) (by rw [← erm]; rfl) hN hE hV hS hA hK hP hD [0, 1, 2, 3, 4, 5, 6, 7, 8, 9, 10, 11, 12, 13, 14, 15, 16, 17, 18, 19, 20, 21, 22, 23, 24, 25, 26, 27, 28, 29, 30, 31, 32, 33, 34, 35, 36, 37, 38, 39, 40, 41, 42, 43, 44, 45, 46, 47, 48, 49, 50, 51, 52, 53, 54, 55, 56, 57, 58, 59, 60] rfl rfl (q0 := 0) rfl rfl rfl rfl rfl hl.1 rfl (lv_room (Nat.le_of_ble_eq_true rfl)) dX12_cancelPrompt_2 ⟨by rw [← erm]; exact Nat.le_of_ble_eq_true rfl, by rw [← erm]; exact Nat.le_of_ble_eq_true rfl⟩) hP hD hS hA [0, 1, 2, 3, 4, 5, 6, 7, 8, 9, 10, 11, 12, 13, 14, 15, 16, 17, 18, 19, 20, 21, 22, 23, 24, 25, 26, 27, 28, 29, 30, 31, 32, 33, 34, 35, 36, 37, 38, 39, 40, 41, 42, 43, 44, 45, 46, 47, 48, 49, 50, 51, 52, 53, 54, 55, 56, 57, 58, 59, 60] rfl rfl (xR2 (F := 61) [0, 1, 2, 3, 4, 5, 6, 7, 8, 9, 10, 11, 12, 13, 14, 15, 16, 17, 18, 19, 20, 21, 22, 23, 24, 25, 26, 27, 28, 29, 30, 31, 32, 33, 34, 35, 36, 37, 38, 39, 40, 41, 42, 43, 44, 45, 46, 47, 48, 49, 50, 51, 52, 53, 54, 55, 56, 57, 58, 59, 60] (xselH [some 0, some 1, some 2, some 3, some 4, some 5, some 6, some 7, some 8, some 9, some 10, some 11, some 12, some 13, some 14, some 15, some 16, some 17, some 18, some 19, some 20, some 21, some 22, some 23, some 24, some 25, some 26, some 27, some 28, some 29, some 30, some 31, some 32, some 33, some 34, some 35, some 36, some 37, some 38, some 39, some 40, some 41, some 42, some 43, some 44, some 45, some 46, some 47, some 48, some 49, some 50, some 51, some 52, some 53, some 54, some 55, some 56, some 57, some 58, some 59, some 60] rfl (by decide +kernel)) rfl rfl (by decide +kernel)) (fun x1 q9 ce H locs hP hD hS hc1 hc2 hc3 => ?_) (fun x1 H locs hP hD hS => ?_)
  · have h := x_th1 h x1
    have h := Option.some.inj h
    subst h
    exact vOut (x := q1) htab hlocks hK hP hD hS x1 hc1 hc2 hc3 (Nat.le_of_ble_eq_true rfl) (Nat.le_of_ble_eq_true rfl)
  have h := x_th0 h x1
  refine lv_aload_n hx hb dX12_cancelPrompt_5 rfl (lv_at hl 0 rfl) ?_
  obtain ⟨q2, c2, h⟩ := x_call h
  refine xCallH (w2 := ThlW cA ad hr h0 q2.1 ++ RowW cA hr q2.2) (zRunV (n := 0) (As := []) (rest := []) ⟨hx, hb, hml, hown, hts⟩ (kX12_record l D cA ad hr h0 _ N s0 s1 q2 c2) qco_X12_record qml_X12_65 qin_X12_record qse_X12_record qini_X12 (by decide +kernel) (by rw [← erm]; rfl) hN hE hS hA hK hP hD ([0, 1, 2, 3, 4, 5, 6, 7, 8, 9, 10, 11, 12, 13, 14, 15, 16, 17, 18, 19, 20, 21, 22, 23, 24, 25, 26, 27, 28, 29, 30, 31, 32, 33, 34, 35, 36, 37, 38, 39, 40, 41, 42, 43, 44, 45, 46, 47, 48, 49, 50, 51, 52, 53, 54, 55, 56, 57, 58, 59, 60] ++ tp 61) (xTailC [0, 1, 2, 3, 4, 5, 6, 7, 8, 9, 10, 11, 12, 13, 14, 15, 16, 17, 18, 19, 20, 21, 22, 23, 24, 25, 26, 27, 28, 29, 30, 31, 32, 33, 34, 35, 36, 37, 38, 39, 40, 41, 42, 43, 44, 45, 46, 47, 48, 49, 50, 51, 52, 53, 54, 55, 56, 57, 58, 59, 60] rfl rfl) (by decide +kernel) (q0 := 0) rfl rfl rfl rfl rfl hl.1 rfl (lv_room (Nat.le_of_ble_eq_true rfl)) dX12_cancelPrompt_6 ⟨by rw [← erm]; exact Nat.le_of_ble_eq_true rfl, by rw [← erm]; exact Nat.le_of_ble_eq_true rfl⟩) hP hD hS hA ([0, 1, 2, 3, 4, 5, 6, 7, 8, 9, 10, 11, 12, 13, 14, 15, 16, 17, 18, 19, 20, 21, 22, 23, 24, 25, 26, 27, 28, 29, 30, 31, 32, 33, 34, 35, 36, 37, 38, 39, 40, 41, 42, 43, 44, 45, 46, 47, 48, 49, 50, 51, 52, 53, 54, 55, 56, 57, 58, 59, 60] ++ tp 61) (xTailC [0, 1, 2, 3, 4, 5, 6, 7, 8, 9, 10, 11, 12, 13, 14, 15, 16, 17, 18, 19, 20, 21, 22, 23, 24, 25, 26, 27, 28, 29, 30, 31, 32, 33, 34, 35, 36, 37, 38, 39, 40, 41, 42, 43, 44, 45, 46, 47, 48, 49, 50, 51, 52, 53, 54, 55, 56, 57, 58, 59, 60] rfl rfl) (xTailF rfl) (xT2 (F := 61) [0, 1, 2, 3, 4, 5, 6, 7, 8, 9, 10, 11, 12, 13, 14, 15, 16, 17, 18, 19, 20, 21, 22, 23, 24, 25, 26, 27, 28, 29, 30, 31, 32, 33, 34, 35, 36, 37, 38, 39, 40, 41, 42, 43, 44, 45, 46, 47, 48, 49, 50, 51, 52, 53, 54, 55, 56, 57, 58, 59, 60] (xselH [some 0, some 1, some 2, some 3, some 4, some 5, some 6, some 7, some 8, some 9, some 10, some 11, some 12, some 13, some 14, some 15, some 16, some 17, some 18, some 19, some 20, some 21, some 22, some 23, some 24, some 25, some 26, some 27, some 28, some 29, some 30, some 31, some 32, some 33, some 34, some 35, some 36, some 37, some 38, some 39, some 40, some 41, some 42, some 43, some 44, some 45, some 46, some 47, some 48, some 49, some 50, some 51, some 52, some 53, some 54, some 55, some 56, some 57, some 58, some 59, some 60] rfl (by decide +kernel)) rfl rfl rfl) (fun H locs hP hD hS => ?_)
  refine lv_aload_n hx hb dX12_cancelPrompt_9 rfl (lv_at hl 0 rfl) ?_
  refine va_get (D := D) (ci := 11) (v := .ref (h0 1)) (C := RX12) (T := TX12) (N := 10) hx hb hts iX12 hown hK hP 0 rfl rfl 0 (by decide) (hts _ qfl_X12_10) (fun _ h9 => h9) rfl dX12_cancelPrompt_10 ?_
  refine va_getN (D := D) (ci := 4) (v := .ref (h0 13)) (C := RX3) (T := TX3) (N := 7) hx hb hts iX3 hown hK hP 1 rfl rfl 2 (by decide) (hN.use qfn_X12_101) (fun _ h9 => h9) rfl dX12_cancelPrompt_13 ?_
  refine lv_iload_n hx hb dX12_cancelPrompt_16 rfl (lv_at hl 1 rfl) ?_
  obtain ⟨q3, c3, h⟩ := x_call h
  refine xCallH (w2 := ThlW cA ad hr h0 ((Thls0 q2.1 ((Boos2 q2.1.1 q3.2)))) ++ RowW cA hr q2.2) (zRunV (n := 1) (As := [.int a1]) (rest := []) ⟨hx, hb, hml, hown, hts⟩ (kX8_end l D cA ad (fun k => h0 (k + 13)) _ N a1 q2.1.1.2.2.1 q3 c3) qco_X8_end qml_X12_117 qin_X8_end qse_X8_end qini_X8 (by decide +kernel) (by rw [← erm]; rfl) hN hE hS hA hK hP hD [13, 14, 15, 16, 17, 18, 19] rfl rfl (q0 := 0) rfl rfl rfl rfl rfl hl.1 rfl (lv_room (Nat.le_of_ble_eq_true rfl)) dX12_cancelPrompt_17 ⟨by rw [← erm]; exact Nat.le_of_ble_eq_true rfl, by rw [← erm]; exact Nat.le_of_ble_eq_true rfl⟩) hP hD hS hA [13, 14, 15, 16, 17, 18, 19] rfl rfl (xR2 (F := 61) [13, 14, 15, 16, 17, 18, 19] (xselH [none, none, none, none, none, none, none, none, none, none, none, none, none, some 0, some 1, some 2, some 3, some 4, some 5, some 6, none, none, none, none, none, none, none, none, none, none, none, none, none, none, none, none, none, none, none, none, none, none, none, none, none, none, none, none, none, none, none, none, none, none, none, none, none, none, none, none, none] rfl (by decide +kernel)) rfl rfl (by decide +kernel)) (fun H locs hP hD hS => ?_)
  have h := Option.some.inj h
  subst h
  refine W.widen (k := 1) (n := 6) (Nat.le_of_ble_eq_true rfl) (Nat.le_of_ble_eq_true rfl) ?_
  exact vIret hx hb hr9 hlocks hP hK hD hS dX12_cancelPrompt_20
def fX12_passHours (N : Nat) (a1 : Int32) (s0 : ThlS) (s1 : (Nat → BooS)) : Option (Nat × Int32 × ThlS × (Nat → BooS)) :=
  xcall (fX12_faultOfHours N a1) fun q1 =>
  xcall (fX12_refuse N q1) fun q2 =>
  xthr q2 (some (q2, 0, s0, s1)) <|
  xcall (fX12_record N s0 s1) fun q3 =>
  xcall (fX3_letPass N a1 q3.1.1) fun q4 =>
  some (0, q4.1, (Thls0 q3.1 q4.2), q3.2)
set_option maxRecDepth 100000 in
set_option maxHeartbeats 4000000 in
theorem kX12_passHours (l : Launch) (hl9 : l.stackTraces = false) (D : va_G) (cA : Nat → ClassId) (ad : Nat → Nat) (hr : Nat → Nat → Nat) (h0 : Nat → Nat) (sz N : Nat) (a1 : Int32) (s0 : ThlS) (s1 : (Nat → BooS)) (q : Nat × Int32 × ThlS × (Nat → BooS)) (h : fX12_passHours N a1 s0 s1 = some q) : vM l yX12_passHours cX12_passHours 2 (some .int) ({ frames := 7, cells := 1, slots := 6, locals := 123 }) D cA ad (ThlW cA ad hr h0 s0 ++ RowW cA hr s1) sz [.ref (h0 0), .int a1] q.1 (some (.int q.2.1)) (ThlW cA ad hr h0 q.2.2.1 ++ RowW cA hr q.2.2.2) 1 6 := by
  generalize erm : ({ frames := 7, cells := 1, slots := 6, locals := 123 } : Room) = rm
  refine vMet (by decide) (Nat.le_of_ble_eq_true rfl) ?_
  intro p e s m below meth c hx hb hr9 hlocks hml hts hown hin hK hP A eA hD hS hA hsz hN hE hV htab ls hl
  have hl : lv_has ls 2 [(0, .ref (h0 0)), (1, .int a1)] := hl
  clear eA
  rw [fX12_passHours] at h
  refine lv_iload_n hx hb dX12_passHours_0 rfl (lv_at hl 1 rfl) ?_
  obtain ⟨q1, c1, h⟩ := x_call h
  refine xCallH (w2 := ThlW cA ad hr h0 s0 ++ RowW cA hr s1) (zRunS (n := 1) (As := [.int a1]) (rest := []) ⟨hx, hb, hml, hown, hts⟩ (kX12_faultOfHours l D cA ad  _ N a1 q1 c1) qco_X12_faultOfHours qml_X12_120 qst_X12_faultOfHours qini_X12 (by decide +kernel) (by rw [← erm]; rfl) hN hE hS hA hK hP hD [] rfl rfl rfl rfl hl.1 rfl (lv_room (Nat.le_of_ble_eq_true rfl)) dX12_passHours_1 ⟨Nat.zero_le _, Nat.zero_le _⟩) hP hD hS hA [] rfl rfl (xR2 (F := 61) [] (xselH [none, none, none, none, none, none, none, none, none, none, none, none, none, none, none, none, none, none, none, none, none, none, none, none, none, none, none, none, none, none, none, none, none, none, none, none, none, none, none, none, none, none, none, none, none, none, none, none, none, none, none, none, none, none, none, none, none, none, none, none, none] rfl (by decide +kernel)) rfl rfl (by decide +kernel)) (fun H locs hP hD hS => ?_)
  obtain ⟨q2, c2, h⟩ := x_call h
  refine vCall (w2 := ThlW cA ad hr h0 s0 ++ RowW cA hr s1) (vRunS (n := 1) (As := [.ref (ad q1)]) (rest := []) ⟨hx, hb, hml, hown, hts⟩ (kX12_refuse l hl9 D cA ad  _ N q1 q2 c2) qco_X12_refuse qml_X12_61 qst_X12_refuse qini_X12 (by decide +kernel) (by rw [← erm]; rfl) hN hE hV hS hA hK hP hD [] rfl rfl rfl rfl hl.1 rfl (lv_room (Nat.le_of_ble_eq_true rfl)) dX12_passHours_4 ⟨by rw [← erm]; exact Nat.le_of_ble_eq_true rfl, by rw [← erm]; exact Nat.le_of_ble_eq_true rfl⟩) hP hD hS hA [] rfl rfl (xR2 (F := 61) [] (xselH [none, none, none, none, none, none, none, none, none, none, none, none, none, none, none, none, none, none, none, none, none, none, none, none, none, none, none, none, none, none, none, none, none, none, none, none, none, none, none, none, none, none, none, none, none, none, none, none, none, none, none, none, none, none, none, none, none, none, none, none, none] rfl (by decide +kernel)) rfl rfl (by decide +kernel)) (fun x2 q9 ce H locs hP hD hS hc1 hc2 hc3 => ?_) (fun x2 H locs hP hD hS => ?_)
  · have h := x_th1 h x2
    have h := Option.some.inj h
    subst h
    exact vOut (x := q2) htab hlocks hK hP hD hS x2 hc1 hc2 hc3 (Nat.le_of_ble_eq_true rfl) (Nat.le_of_ble_eq_true rfl)
  have h := x_th0 h x2
  refine lv_aload_n hx hb dX12_passHours_7 rfl (lv_at hl 0 rfl) ?_
  obtain ⟨q3, c3, h⟩ := x_call h
  refine xCallH (w2 := ThlW cA ad hr h0 q3.1 ++ RowW cA hr q3.2) (zRunV (n := 0) (As := []) (rest := []) ⟨hx, hb, hml, hown, hts⟩ (kX12_record l D cA ad hr h0 _ N s0 s1 q3 c3) qco_X12_record qml_X12_65 qin_X12_record qse_X12_record qini_X12 (by decide +kernel) (by rw [← erm]; rfl) hN hE hS hA hK hP hD ([0, 1, 2, 3, 4, 5, 6, 7, 8, 9, 10, 11, 12, 13, 14, 15, 16, 17, 18, 19, 20, 21, 22, 23, 24, 25, 26, 27, 28, 29, 30, 31, 32, 33, 34, 35, 36, 37, 38, 39, 40, 41, 42, 43, 44, 45, 46, 47, 48, 49, 50, 51, 52, 53, 54, 55, 56, 57, 58, 59, 60] ++ tp 61) (xTailC [0, 1, 2, 3, 4, 5, 6, 7, 8, 9, 10, 11, 12, 13, 14, 15, 16, 17, 18, 19, 20, 21, 22, 23, 24, 25, 26, 27, 28, 29, 30, 31, 32, 33, 34, 35, 36, 37, 38, 39, 40, 41, 42, 43, 44, 45, 46, 47, 48, 49, 50, 51, 52, 53, 54, 55, 56, 57, 58, 59, 60] rfl rfl) (by decide +kernel) (q0 := 0) rfl rfl rfl rfl rfl hl.1 rfl (lv_room (Nat.le_of_ble_eq_true rfl)) dX12_passHours_8 ⟨by rw [← erm]; exact Nat.le_of_ble_eq_true rfl, by rw [← erm]; exact Nat.le_of_ble_eq_true rfl⟩) hP hD hS hA ([0, 1, 2, 3, 4, 5, 6, 7, 8, 9, 10, 11, 12, 13, 14, 15, 16, 17, 18, 19, 20, 21, 22, 23, 24, 25, 26, 27, 28, 29, 30, 31, 32, 33, 34, 35, 36, 37, 38, 39, 40, 41, 42, 43, 44, 45, 46, 47, 48, 49, 50, 51, 52, 53, 54, 55, 56, 57, 58, 59, 60] ++ tp 61) (xTailC [0, 1, 2, 3, 4, 5, 6, 7, 8, 9, 10, 11, 12, 13, 14, 15, 16, 17, 18, 19, 20, 21, 22, 23, 24, 25, 26, 27, 28, 29, 30, 31, 32, 33, 34, 35, 36, 37, 38, 39, 40, 41, 42, 43, 44, 45, 46, 47, 48, 49, 50, 51, 52, 53, 54, 55, 56, 57, 58, 59, 60] rfl rfl) (xTailF rfl) (xT2 (F := 61) [0, 1, 2, 3, 4, 5, 6, 7, 8, 9, 10, 11, 12, 13, 14, 15, 16, 17, 18, 19, 20, 21, 22, 23, 24, 25, 26, 27, 28, 29, 30, 31, 32, 33, 34, 35, 36, 37, 38, 39, 40, 41, 42, 43, 44, 45, 46, 47, 48, 49, 50, 51, 52, 53, 54, 55, 56, 57, 58, 59, 60] (xselH [some 0, some 1, some 2, some 3, some 4, some 5, some 6, some 7, some 8, some 9, some 10, some 11, some 12, some 13, some 14, some 15, some 16, some 17, some 18, some 19, some 20, some 21, some 22, some 23, some 24, some 25, some 26, some 27, some 28, some 29, some 30, some 31, some 32, some 33, some 34, some 35, some 36, some 37, some 38, some 39, some 40, some 41, some 42, some 43, some 44, some 45, some 46, some 47, some 48, some 49, some 50, some 51, some 52, some 53, some 54, some 55, some 56, some 57, some 58, some 59, some 60] rfl (by decide +kernel)) rfl rfl rfl) (fun H locs hP hD hS => ?_)
  refine lv_aload_n hx hb dX12_passHours_11 rfl (lv_at hl 0 rfl) ?_
  refine va_get (D := D) (ci := 11) (v := .ref (h0 1)) (C := RX12) (T := TX12) (N := 10) hx hb hts iX12 hown hK hP 0 rfl rfl 0 (by decide) (hts _ qfl_X12_10) (fun _ h9 => h9) rfl dX12_passHours_12 ?_
  refine lv_iload_n hx hb dX12_passHours_15 rfl (lv_at hl 1 rfl) ?_
  obtain ⟨q4, c4, h⟩ := x_call h
  refine xCallH (w2 := ThlW cA ad hr h0 ((Thls0 q3.1 q4.2)) ++ RowW cA hr q3.2) (zRunV (n := 1) (As := [.int a1]) (rest := []) ⟨hx, hb, hml, hown, hts⟩ (kX3_letPass l D cA ad (fun k => h0 (k + 1)) _ N a1 q3.1.1 q4 c4) qco_X3_letPass qml_X12_123 qin_X3_letPass qse_X3_letPass qini_X3 (by decide +kernel) (by rw [← erm]; rfl) hN hE hS hA hK hP hD [1, 2, 3, 4, 5, 6, 7, 8, 9, 10, 11, 12, 13, 14, 15, 16, 17, 18, 19, 20, 21, 22, 23, 24, 25] rfl rfl (q0 := 0) rfl rfl rfl rfl rfl hl.1 rfl (lv_room (Nat.le_of_ble_eq_true rfl)) dX12_passHours_16 ⟨by rw [← erm]; exact Nat.le_of_ble_eq_true rfl, by rw [← erm]; exact Nat.le_of_ble_eq_true rfl⟩) hP hD hS hA [1, 2, 3, 4, 5, 6, 7, 8, 9, 10, 11, 12, 13, 14, 15, 16, 17, 18, 19, 20, 21, 22, 23, 24, 25] rfl rfl (xR2 (F := 61) [1, 2, 3, 4, 5, 6, 7, 8, 9, 10, 11, 12, 13, 14, 15, 16, 17, 18, 19, 20, 21, 22, 23, 24, 25] (xselH [none, some 0, some 1, some 2, some 3, some 4, some 5, some 6, some 7, some 8, some 9, some 10, some 11, some 12, some 13, some 14, some 15, some 16, some 17, some 18, some 19, some 20, some 21, some 22, some 23, some 24, none, none, none, none, none, none, none, none, none, none, none, none, none, none, none, none, none, none, none, none, none, none, none, none, none, none, none, none, none, none, none, none, none, none, none] rfl (by decide +kernel)) rfl rfl (by decide +kernel)) (fun H locs hP hD hS => ?_)
  have h := Option.some.inj h
  subst h
  refine W.widen (k := 1) (n := 6) (Nat.le_of_ble_eq_true rfl) (Nat.le_of_ble_eq_true rfl) ?_
  exact vIret hx hb hr9 hlocks hP hK hD hS dX12_passHours_19
def fX12_buy (N : Nat) (a1 : Int32) (a2 : Int32) (s0 : ThlS) (s1 : (Nat → BooS)) : Option (Nat × Int32 × ThlS × (Nat → BooS)) :=
  xcall (fX3_faultOfBuying N a1 a2 s0.1) fun q1 =>
  xcall (fX12_refuse N q1) fun q2 =>
  xthr q2 (some (q2, 0, s0, s1)) <|
  xcall (fX12_record N s0 s1) fun q3 =>
  xcall (fX3_buyLot N a1 a2 q3.1.1) fun q4 =>
  some (0, q4.1, (Thls0 q3.1 q4.2), q3.2)
set_option maxRecDepth 100000 in
set_option maxHeartbeats 4000000 in
theorem kX12_buy (l : Launch) (hl9 : l.stackTraces = false) (D : va_G) (cA : Nat → ClassId) (ad : Nat → Nat) (hr : Nat → Nat → Nat) (h0 : Nat → Nat) (sz N : Nat) (a1 : Int32) (a2 : Int32) (s0 : ThlS) (s1 : (Nat → BooS)) (q : Nat × Int32 × ThlS × (Nat → BooS)) (h : fX12_buy N a1 a2 s0 s1 = some q) : vM l yX12_buy cX12_buy 3 (some .int) ({ frames := 7, cells := 1, slots := 6, locals := 123 }) D cA ad (ThlW cA ad hr h0 s0 ++ RowW cA hr s1) sz [.ref (h0 0), .int a1, .int a2] q.1 (some (.int q.2.1)) (ThlW cA ad hr h0 q.2.2.1 ++ RowW cA hr q.2.2.2) 1 6 := by
  generalize erm : ({ frames := 7, cells := 1, slots := 6, locals := 123 } : Room) = rm
  refine vMet (by decide) (Nat.le_of_ble_eq_true rfl) ?_
  intro p e s m below meth c hx hb hr9 hlocks hml hts hown hin hK hP A eA hD hS hA hsz hN hE hV htab ls hl
  have hl : lv_has ls 3 [(0, .ref (h0 0)), (1, .int a1), (2, .int a2)] := hl
  clear eA
  rw [fX12_buy] at h
  refine lv_aload_n hx hb dX12_buy_0 rfl (lv_at hl 0 rfl) ?_
  refine va_get (D := D) (ci := 11) (v := .ref (h0 1)) (C := RX12) (T := TX12) (N := 10) hx hb hts iX12 hown hK hP 0 rfl rfl 0 (by decide) (hts _ qfl_X12_10) (fun _ h9 => h9) rfl dX12_buy_1 ?_
  refine lv_iload_n hx hb dX12_buy_4 rfl (lv_at hl 1 rfl) ?_
  refine lv_iload_n hx hb dX12_buy_5 rfl (lv_at hl 2 rfl) ?_
  obtain ⟨q1, c1, h⟩ := x_call h
  refine xCallH (w2 := ThlW cA ad hr h0 s0 ++ RowW cA hr s1) (zRunV (n := 2) (As := [.int a1, .int a2]) (rest := []) ⟨hx, hb, hml, hown, hts⟩ (kX3_faultOfBuying l D cA ad (fun k => h0 (k + 1)) _ N a1 a2 s0.1 q1 c1) qco_X3_faultOfBuying qml_X12_126 qin_X3_faultOfBuying qse_X3_faultOfBuying qini_X3 (by decide +kernel) (by rw [← erm]; rfl) hN hE hS hA hK hP hD [1, 2, 3, 4, 5, 6, 7, 8, 9, 10, 11, 12, 13, 14, 15, 16, 17, 18, 19, 20, 21, 22, 23, 24, 25] rfl rfl (q0 := 0) rfl rfl rfl rfl rfl hl.1 rfl (lv_room (Nat.le_of_ble_eq_true rfl)) dX12_buy_6 ⟨Nat.zero_le _, Nat.zero_le _⟩) hP hD hS hA [1, 2, 3, 4, 5, 6, 7, 8, 9, 10, 11, 12, 13, 14, 15, 16, 17, 18, 19, 20, 21, 22, 23, 24, 25] rfl rfl (xR2 (F := 61) [1, 2, 3, 4, 5, 6, 7, 8, 9, 10, 11, 12, 13, 14, 15, 16, 17, 18, 19, 20, 21, 22, 23, 24, 25] (xselH [none, some 0, some 1, some 2, some 3, some 4, some 5, some 6, some 7, some 8, some 9, some 10, some 11, some 12, some 13, some 14, some 15, some 16, some 17, some 18, some 19, some 20, some 21, some 22, some 23, some 24, none, none, none, none, none, none, none, none, none, none, none, none, none, none, none, none, none, none, none, none, none, none, none, none, none, none, none, none, none, none, none, none, none, none, none] rfl (by decide +kernel)) rfl rfl (by decide +kernel)) (fun H locs hP hD hS => ?_)
  obtain ⟨q2, c2, h⟩ := x_call h
  refine vCall (w2 := ThlW cA ad hr h0 s0 ++ RowW cA hr s1) (vRunS (n := 1) (As := [.ref (ad q1)]) (rest := []) ⟨hx, hb, hml, hown, hts⟩ (kX12_refuse l hl9 D cA ad  _ N q1 q2 c2) qco_X12_refuse qml_X12_61 qst_X12_refuse qini_X12 (by decide +kernel) (by rw [← erm]; rfl) hN hE hV hS hA hK hP hD [] rfl rfl rfl rfl hl.1 rfl (lv_room (Nat.le_of_ble_eq_true rfl)) dX12_buy_9 ⟨by rw [← erm]; exact Nat.le_of_ble_eq_true rfl, by rw [← erm]; exact Nat.le_of_ble_eq_true rfl⟩) hP hD hS hA [] rfl rfl (xR2 (F := 61) [] (xselH [none, none, none, none, none, none, none, none, none, none, none, none, none, none, none, none, none, none, none, none, none, none, none, none, none, none, none, none, none, none, none, none, none, none, none, none, none, none, none, none, none, none, none, none, none, none, none, none, none, none, none, none, none, none, none, none, none, none, none, none, none] rfl (by decide +kernel)) rfl rfl (by decide +kernel)) (fun x2 q9 ce H locs hP hD hS hc1 hc2 hc3 => ?_) (fun x2 H locs hP hD hS => ?_)
  · have h := x_th1 h x2
    have h := Option.some.inj h
    subst h
    exact vOut (x := q2) htab hlocks hK hP hD hS x2 hc1 hc2 hc3 (Nat.le_of_ble_eq_true rfl) (Nat.le_of_ble_eq_true rfl)
  have h := x_th0 h x2
  refine lv_aload_n hx hb dX12_buy_12 rfl (lv_at hl 0 rfl) ?_
  obtain ⟨q3, c3, h⟩ := x_call h
  refine xCallH (w2 := ThlW cA ad hr h0 q3.1 ++ RowW cA hr q3.2) (zRunV (n := 0) (As := []) (rest := []) ⟨hx, hb, hml, hown, hts⟩ (kX12_record l D cA ad hr h0 _ N s0 s1 q3 c3) qco_X12_record qml_X12_65 qin_X12_record qse_X12_record qini_X12 (by decide +kernel) (by rw [← erm]; rfl) hN hE hS hA hK hP hD ([0, 1, 2, 3, 4, 5, 6, 7, 8, 9, 10, 11, 12, 13, 14, 15, 16, 17, 18, 19, 20, 21, 22, 23, 24, 25, 26, 27, 28, 29, 30, 31, 32, 33, 34, 35, 36, 37, 38, 39, 40, 41, 42, 43, 44, 45, 46, 47, 48, 49, 50, 51, 52, 53, 54, 55, 56, 57, 58, 59, 60] ++ tp 61) (xTailC [0, 1, 2, 3, 4, 5, 6, 7, 8, 9, 10, 11, 12, 13, 14, 15, 16, 17, 18, 19, 20, 21, 22, 23, 24, 25, 26, 27, 28, 29, 30, 31, 32, 33, 34, 35, 36, 37, 38, 39, 40, 41, 42, 43, 44, 45, 46, 47, 48, 49, 50, 51, 52, 53, 54, 55, 56, 57, 58, 59, 60] rfl rfl) (by decide +kernel) (q0 := 0) rfl rfl rfl rfl rfl hl.1 rfl (lv_room (Nat.le_of_ble_eq_true rfl)) dX12_buy_13 ⟨by rw [← erm]; exact Nat.le_of_ble_eq_true rfl, by rw [← erm]; exact Nat.le_of_ble_eq_true rfl⟩) hP hD hS hA ([0, 1, 2, 3, 4, 5, 6, 7, 8, 9, 10, 11, 12, 13, 14, 15, 16, 17, 18, 19, 20, 21, 22, 23, 24, 25, 26, 27, 28, 29, 30, 31, 32, 33, 34, 35, 36, 37, 38, 39, 40, 41, 42, 43, 44, 45, 46, 47, 48, 49, 50, 51, 52, 53, 54, 55, 56, 57, 58, 59, 60] ++ tp 61) (xTailC [0, 1, 2, 3, 4, 5, 6, 7, 8, 9, 10, 11, 12, 13, 14, 15, 16, 17, 18, 19, 20, 21, 22, 23, 24, 25, 26, 27, 28, 29, 30, 31, 32, 33, 34, 35, 36, 37, 38, 39, 40, 41, 42, 43, 44, 45, 46, 47, 48, 49, 50, 51, 52, 53, 54, 55, 56, 57, 58, 59, 60] rfl rfl) (xTailF rfl) (xT2 (F := 61) [0, 1, 2, 3, 4, 5, 6, 7, 8, 9, 10, 11, 12, 13, 14, 15, 16, 17, 18, 19, 20, 21, 22, 23, 24, 25, 26, 27, 28, 29, 30, 31, 32, 33, 34, 35, 36, 37, 38, 39, 40, 41, 42, 43, 44, 45, 46, 47, 48, 49, 50, 51, 52, 53, 54, 55, 56, 57, 58, 59, 60] (xselH [some 0, some 1, some 2, some 3, some 4, some 5, some 6, some 7, some 8, some 9, some 10, some 11, some 12, some 13, some 14, some 15, some 16, some 17, some 18, some 19, some 20, some 21, some 22, some 23, some 24, some 25, some 26, some 27, some 28, some 29, some 30, some 31, some 32, some 33, some 34, some 35, some 36, some 37, some 38, some 39, some 40, some 41, some 42, some 43, some 44, some 45, some 46, some 47, some 48, some 49, some 50, some 51, some 52, some 53, some 54, some 55, some 56, some 57, some 58, some 59, some 60] rfl (by decide +kernel)) rfl rfl rfl) (fun H locs hP hD hS => ?_)
  refine lv_aload_n hx hb dX12_buy_16 rfl (lv_at hl 0 rfl) ?_
  refine va_get (D := D) (ci := 11) (v := .ref (h0 1)) (C := RX12) (T := TX12) (N := 10) hx hb hts iX12 hown hK hP 0 rfl rfl 0 (by decide) (hts _ qfl_X12_10) (fun _ h9 => h9) rfl dX12_buy_17 ?_
  refine lv_iload_n hx hb dX12_buy_20 rfl (lv_at hl 1 rfl) ?_
  refine lv_iload_n hx hb dX12_buy_21 rfl (lv_at hl 2 rfl) ?_
  obtain ⟨q4, c4, h⟩ := x_call h
  refine xCallH (w2 := ThlW cA ad hr h0 ((Thls0 q3.1 q4.2)) ++ RowW cA hr q3.2) (zRunV (n := 2) (As := [.int a1, .int a2]) (rest := []) ⟨hx, hb, hml, hown, hts⟩ (kX3_buyLot l D cA ad (fun k => h0 (k + 1)) _ N a1 a2 q3.1.1 q4 c4) qco_X3_buyLot qml_X12_129 qin_X3_buyLot qse_X3_buyLot qini_X3 (by decide +kernel) (by rw [← erm]; rfl) hN hE hS hA hK hP hD [1, 2, 3, 4, 5, 6, 7, 8, 9, 10, 11, 12, 13, 14, 15, 16, 17, 18, 19, 20, 21, 22, 23, 24, 25] rfl rfl (q0 := 0) rfl rfl rfl rfl rfl hl.1 rfl (lv_room (Nat.le_of_ble_eq_true rfl)) dX12_buy_22 ⟨by rw [← erm]; exact Nat.le_of_ble_eq_true rfl, by rw [← erm]; exact Nat.le_of_ble_eq_true rfl⟩) hP hD hS hA [1, 2, 3, 4, 5, 6, 7, 8, 9, 10, 11, 12, 13, 14, 15, 16, 17, 18, 19, 20, 21, 22, 23, 24, 25] rfl rfl (xR2 (F := 61) [1, 2, 3, 4, 5, 6, 7, 8, 9, 10, 11, 12, 13, 14, 15, 16, 17, 18, 19, 20, 21, 22, 23, 24, 25] (xselH [none, some 0, some 1, some 2, some 3, some 4, some 5, some 6, some 7, some 8, some 9, some 10, some 11, some 12, some 13, some 14, some 15, some 16, some 17, some 18, some 19, some 20, some 21, some 22, some 23, some 24, none, none, none, none, none, none, none, none, none, none, none, none, none, none, none, none, none, none, none, none, none, none, none, none, none, none, none, none, none, none, none, none, none, none, none] rfl (by decide +kernel)) rfl rfl (by decide +kernel)) (fun H locs hP hD hS => ?_)
  have h := Option.some.inj h
  subst h
  refine W.widen (k := 1) (n := 6) (Nat.le_of_ble_eq_true rfl) (Nat.le_of_ble_eq_true rfl) ?_
  exact vIret hx hb hr9 hlocks hP hK hD hS dX12_buy_25
def fX12_sell (N : Nat) (a1 : Int32) (a2 : Int32) (s0 : ThlS) (s1 : (Nat → BooS)) : Option (Nat × Int32 × ThlS × (Nat → BooS)) :=
  xcall (fX11_faultOfSelling N a1 a2 s0.1.2.2.2.1) fun q1 =>
  xcall (fX12_refuse N q1) fun q2 =>
  xthr q2 (some (q2, 0, s0, s1)) <|
  xcall (fX12_record N s0 s1) fun q3 =>
  xcall (fX3_sellCostumes N a1 a2 q3.1.1) fun q4 =>
  some (0, q4.1, (Thls0 q3.1 q4.2), q3.2)
set_option maxRecDepth 100000 in
set_option maxHeartbeats 4000000 in
theorem kX12_sell (l : Launch) (hl9 : l.stackTraces = false) (D : va_G) (cA : Nat → ClassId) (ad : Nat → Nat) (hr : Nat → Nat → Nat) (h0 : Nat → Nat) (sz N : Nat) (a1 : Int32) (a2 : Int32) (s0 : ThlS) (s1 : (Nat → BooS)) (q : Nat × Int32 × ThlS × (Nat → BooS)) (h : fX12_sell N a1 a2 s0 s1 = some q) : vM l yX12_sell cX12_sell 3 (some .int) ({ frames := 7, cells := 1, slots := 6, locals := 123 }) D cA ad (ThlW cA ad hr h0 s0 ++ RowW cA hr s1) sz [.ref (h0 0), .int a1, .int a2] q.1 (some (.int q.2.1)) (ThlW cA ad hr h0 q.2.2.1 ++ RowW cA hr q.2.2.2) 1 6 := by
  generalize erm : ({ frames := 7, cells := 1, slots := 6, locals := 123 } : Room) = rm
  refine vMet (by decide) (Nat.le_of_ble_eq_true rfl) ?_
  intro p e s m below meth c hx hb hr9 hlocks hml hts hown hin hK hP A eA hD hS hA hsz hN hE hV htab ls hl
  have hl : lv_has ls 3 [(0, .ref (h0 0)), (1, .int a1), (2, .int a2)] := hl
  clear eA
  rw [fX12_sell] at h
  refine lv_aload_n hx hb dX12_sell_0 rfl (lv_at hl 0 rfl) ?_
  refine va_get (D := D) (ci := 11) (v := .ref (h0 1)) (C := RX12) (T := TX12) (N := 10) hx hb hts iX12 hown hK hP 0 rfl rfl 0 (by decide) (hts _ qfl_X12_10) (fun _ h9 => h9) rfl dX12_sell_1 ?_
  refine va_getN (D := D) (ci := 4) (v := .ref (h0 20)) (C := RX3) (T := TX3) (N := 7) hx hb hts iX3 hown hK hP 1 rfl rfl 3 (by decide) (hN.use qfn_X12_133) (fun _ h9 => h9) rfl dX12_sell_4 ?_
  refine lv_iload_n hx hb dX12_sell_7 rfl (lv_at hl 1 rfl) ?_
  refine lv_iload_n hx hb dX12_sell_8 rfl (lv_at hl 2 rfl) ?_
  obtain ⟨q1, c1, h⟩ := x_call h
  refine xCallH (w2 := ThlW cA ad hr h0 s0 ++ RowW cA hr s1) (zRunV (n := 2) (As := [.int a1, .int a2]) (rest := []) ⟨hx, hb, hml, hown, hts⟩ (kX11_faultOfSelling l D cA ad (fun k => h0 (k + 20)) _ N a1 a2 s0.1.2.2.2.1 q1 c1) qco_X11_faultOfSelling qml_X12_137 qin_X11_faultOfSelling qse_X11_faultOfSelling qini_X11 (by decide +kernel) (by rw [← erm]; rfl) hN hE hS hA hK hP hD [20, 21, 22] rfl rfl (q0 := 0) rfl rfl rfl rfl rfl hl.1 rfl (lv_room (Nat.le_of_ble_eq_true rfl)) dX12_sell_9 ⟨Nat.zero_le _, Nat.zero_le _⟩) hP hD hS hA [20, 21, 22] rfl rfl (xR2 (F := 61) [20, 21, 22] (xselH [none, none, none, none, none, none, none, none, none, none, none, none, none, none, none, none, none, none, none, none, some 0, some 1, some 2, none, none, none, none, none, none, none, none, none, none, none, none, none, none, none, none, none, none, none, none, none, none, none, none, none, none, none, none, none, none, none, none, none, none, none, none, none, none] rfl (by decide +kernel)) rfl rfl (by decide +kernel)) (fun H locs hP hD hS => ?_)
  obtain ⟨q2, c2, h⟩ := x_call h
  refine vCall (w2 := ThlW cA ad hr h0 s0 ++ RowW cA hr s1) (vRunS (n := 1) (As := [.ref (ad q1)]) (rest := []) ⟨hx, hb, hml, hown, hts⟩ (kX12_refuse l hl9 D cA ad  _ N q1 q2 c2) qco_X12_refuse qml_X12_61 qst_X12_refuse qini_X12 (by decide +kernel) (by rw [← erm]; rfl) hN hE hV hS hA hK hP hD [] rfl rfl rfl rfl hl.1 rfl (lv_room (Nat.le_of_ble_eq_true rfl)) dX12_sell_12 ⟨by rw [← erm]; exact Nat.le_of_ble_eq_true rfl, by rw [← erm]; exact Nat.le_of_ble_eq_true rfl⟩) hP hD hS hA [] rfl rfl (xR2 (F := 61) [] (xselH [none, none, none, none, none, none, none, none, none, none, none, none, none, none, none, none, none, none, none, none, none, none, none, none, none, none, none, none, none, none, none, none, none, none, none, none, none, none, none, none, none, none, none, none, none, none, none, none, none, none, none, none, none, none, none, none, none, none, none, none, none] rfl (by decide +kernel)) rfl rfl (by decide +kernel)) (fun x2 q9 ce H locs hP hD hS hc1 hc2 hc3 => ?_) (fun x2 H locs hP hD hS => ?_)
  · have h := x_th1 h x2
    have h := Option.some.inj h
    subst h
    exact vOut (x := q2) htab hlocks hK hP hD hS x2 hc1 hc2 hc3 (Nat.le_of_ble_eq_true rfl) (Nat.le_of_ble_eq_true rfl)
  have h := x_th0 h x2
  refine lv_aload_n hx hb dX12_sell_15 rfl (lv_at hl 0 rfl) ?_
  obtain ⟨q3, c3, h⟩ := x_call h
  refine xCallH (w2 := ThlW cA ad hr h0 q3.1 ++ RowW cA hr q3.2) (zRunV (n := 0) (As := []) (rest := []) ⟨hx, hb, hml, hown, hts⟩ (kX12_record l D cA ad hr h0 _ N s0 s1 q3 c3) qco_X12_record qml_X12_65 qin_X12_record qse_X12_record qini_X12 (by decide +kernel) (by rw [← erm]; rfl) hN hE hS hA hK hP hD ([0, 1, 2, 3, 4, 5, 6, 7, 8, 9, 10, 11, 12, 13, 14, 15, 16, 17, 18, 19, 20, 21, 22, 23, 24, 25, 26, 27, 28, 29, 30, 31, 32, 33, 34, 35, 36, 37, 38, 39, 40, 41, 42, 43, 44, 45, 46, 47, 48, 49, 50, 51, 52, 53, 54, 55, 56, 57, 58, 59, 60] ++ tp 61) (xTailC [0, 1, 2, 3, 4, 5, 6, 7, 8, 9, 10, 11, 12, 13, 14, 15, 16, 17, 18, 19, 20, 21, 22, 23, 24, 25, 26, 27, 28, 29, 30, 31, 32, 33, 34, 35, 36, 37, 38, 39, 40, 41, 42, 43, 44, 45, 46, 47, 48, 49, 50, 51, 52, 53, 54, 55, 56, 57, 58, 59, 60] rfl rfl) (by decide +kernel) (q0 := 0) rfl rfl rfl rfl rfl hl.1 rfl (lv_room (Nat.le_of_ble_eq_true rfl)) dX12_sell_16 ⟨by rw [← erm]; exact Nat.le_of_ble_eq_true rfl, by rw [← erm]; exact Nat.le_of_ble_eq_true rfl⟩) hP hD hS hA ([0, 1, 2, 3, 4, 5, 6, 7, 8, 9, 10, 11, 12, 13, 14, 15, 16, 17, 18, 19, 20, 21, 22, 23, 24, 25, 26, 27, 28, 29, 30, 31, 32, 33, 34, 35, 36, 37, 38, 39, 40, 41, 42, 43, 44, 45, 46, 47, 48, 49, 50, 51, 52, 53, 54, 55, 56, 57, 58, 59, 60] ++ tp 61) (xTailC [0, 1, 2, 3, 4, 5, 6, 7, 8, 9, 10, 11, 12, 13, 14, 15, 16, 17, 18, 19, 20, 21, 22, 23, 24, 25, 26, 27, 28, 29, 30, 31, 32, 33, 34, 35, 36, 37, 38, 39, 40, 41, 42, 43, 44, 45, 46, 47, 48, 49, 50, 51, 52, 53, 54, 55, 56, 57, 58, 59, 60] rfl rfl) (xTailF rfl) (xT2 (F := 61) [0, 1, 2, 3, 4, 5, 6, 7, 8, 9, 10, 11, 12, 13, 14, 15, 16, 17, 18, 19, 20, 21, 22, 23, 24, 25, 26, 27, 28, 29, 30, 31, 32, 33, 34, 35, 36, 37, 38, 39, 40, 41, 42, 43, 44, 45, 46, 47, 48, 49, 50, 51, 52, 53, 54, 55, 56, 57, 58, 59, 60] (xselH [some 0, some 1, some 2, some 3, some 4, some 5, some 6, some 7, some 8, some 9, some 10, some 11, some 12, some 13, some 14, some 15, some 16, some 17, some 18, some 19, some 20, some 21, some 22, some 23, some 24, some 25, some 26, some 27, some 28, some 29, some 30, some 31, some 32, some 33, some 34, some 35, some 36, some 37, some 38, some 39, some 40, some 41, some 42, some 43, some 44, some 45, some 46, some 47, some 48, some 49, some 50, some 51, some 52, some 53, some 54, some 55, some 56, some 57, some 58, some 59, some 60] rfl (by decide +kernel)) rfl rfl rfl) (fun H locs hP hD hS => ?_)
  refine lv_aload_n hx hb dX12_sell_19 rfl (lv_at hl 0 rfl) ?_
  refine va_get (D := D) (ci := 11) (v := .ref (h0 1)) (C := RX12) (T := TX12) (N := 10) hx hb hts iX12 hown hK hP 0 rfl rfl 0 (by decide) (hts _ qfl_X12_10) (fun _ h9 => h9) rfl dX12_sell_20 ?_
  refine lv_iload_n hx hb dX12_sell_23 rfl (lv_at hl 1 rfl) ?_
  refine lv_iload_n hx hb dX12_sell_24 rfl (lv_at hl 2 rfl) ?_
  obtain ⟨q4, c4, h⟩ := x_call h
  refine xCallH (w2 := ThlW cA ad hr h0 ((Thls0 q3.1 q4.2)) ++ RowW cA hr q3.2) (zRunV (n := 2) (As := [.int a1, .int a2]) (rest := []) ⟨hx, hb, hml, hown, hts⟩ (kX3_sellCostumes l D cA ad (fun k => h0 (k + 1)) _ N a1 a2 q3.1.1 q4 c4) qco_X3_sellCostumes qml_X12_142 qin_X3_sellCostumes qse_X3_sellCostumes qini_X3 (by decide +kernel) (by rw [← erm]; rfl) hN hE hS hA hK hP hD [1, 2, 3, 4, 5, 6, 7, 8, 9, 10, 11, 12, 13, 14, 15, 16, 17, 18, 19, 20, 21, 22, 23, 24, 25] rfl rfl (q0 := 0) rfl rfl rfl rfl rfl hl.1 rfl (lv_room (Nat.le_of_ble_eq_true rfl)) dX12_sell_25 ⟨by rw [← erm]; exact Nat.le_of_ble_eq_true rfl, by rw [← erm]; exact Nat.le_of_ble_eq_true rfl⟩) hP hD hS hA [1, 2, 3, 4, 5, 6, 7, 8, 9, 10, 11, 12, 13, 14, 15, 16, 17, 18, 19, 20, 21, 22, 23, 24, 25] rfl rfl (xR2 (F := 61) [1, 2, 3, 4, 5, 6, 7, 8, 9, 10, 11, 12, 13, 14, 15, 16, 17, 18, 19, 20, 21, 22, 23, 24, 25] (xselH [none, some 0, some 1, some 2, some 3, some 4, some 5, some 6, some 7, some 8, some 9, some 10, some 11, some 12, some 13, some 14, some 15, some 16, some 17, some 18, some 19, some 20, some 21, some 22, some 23, some 24, none, none, none, none, none, none, none, none, none, none, none, none, none, none, none, none, none, none, none, none, none, none, none, none, none, none, none, none, none, none, none, none, none, none, none] rfl (by decide +kernel)) rfl rfl (by decide +kernel)) (fun H locs hP hD hS => ?_)
  have h := Option.some.inj h
  subst h
  refine W.widen (k := 1) (n := 6) (Nat.le_of_ble_eq_true rfl) (Nat.le_of_ble_eq_true rfl) ?_
  exact vIret hx hb hr9 hlocks hP hK hD hS dX12_sell_28
def fX12_bill (N : Nat) (a1 : Int32) (s0 : ThlS) (s1 : (Nat → BooS)) : Option (Nat × Int32 × ThlS × (Nat → BooS)) :=
  xcall (fX2_faultOfNew N a1 s0.1.2.2.2.2.1) fun q1 =>
  xcall (fX12_refuse N q1) fun q2 =>
  xthr q2 (some (q2, 0, s0, s1)) <|
  xcall (fX12_record N s0 s1) fun q3 =>
  xcall (fX3_writeBill N a1 q3.1.1) fun q4 =>
  some (0, q4.1, (Thls0 q3.1 q4.2), q3.2)
set_option maxRecDepth 100000 in
set_option maxHeartbeats 4000000 in
theorem kX12_bill (l : Launch) (hl9 : l.stackTraces = false) (D : va_G) (cA : Nat → ClassId) (ad : Nat → Nat) (hr : Nat → Nat → Nat) (h0 : Nat → Nat) (sz N : Nat) (a1 : Int32) (s0 : ThlS) (s1 : (Nat → BooS)) (q : Nat × Int32 × ThlS × (Nat → BooS)) (h : fX12_bill N a1 s0 s1 = some q) : vM l yX12_bill cX12_bill 2 (some .int) ({ frames := 7, cells := 1, slots := 6, locals := 123 }) D cA ad (ThlW cA ad hr h0 s0 ++ RowW cA hr s1) sz [.ref (h0 0), .int a1] q.1 (some (.int q.2.1)) (ThlW cA ad hr h0 q.2.2.1 ++ RowW cA hr q.2.2.2) 1 6 := by
  generalize erm : ({ frames := 7, cells := 1, slots := 6, locals := 123 } : Room) = rm
  refine vMet (by decide) (Nat.le_of_ble_eq_true rfl) ?_
  intro p e s m below meth c hx hb hr9 hlocks hml hts hown hin hK hP A eA hD hS hA hsz hN hE hV htab ls hl
  have hl : lv_has ls 2 [(0, .ref (h0 0)), (1, .int a1)] := hl
  clear eA
  rw [fX12_bill] at h
  refine lv_aload_n hx hb dX12_bill_0 rfl (lv_at hl 0 rfl) ?_
  refine va_get (D := D) (ci := 11) (v := .ref (h0 1)) (C := RX12) (T := TX12) (N := 10) hx hb hts iX12 hown hK hP 0 rfl rfl 0 (by decide) (hts _ qfl_X12_10) (fun _ h9 => h9) rfl dX12_bill_1 ?_
  refine va_getN (D := D) (ci := 4) (v := .ref (h0 23)) (C := RX3) (T := TX3) (N := 7) hx hb hts iX3 hown hK hP 1 rfl rfl 4 (by decide) (hN.use qfn_X12_145) (fun _ h9 => h9) rfl dX12_bill_4 ?_
  refine lv_iload_n hx hb dX12_bill_7 rfl (lv_at hl 1 rfl) ?_
  obtain ⟨q1, c1, h⟩ := x_call h
  refine xCallH (w2 := ThlW cA ad hr h0 s0 ++ RowW cA hr s1) (zRunV (n := 1) (As := [.int a1]) (rest := []) ⟨hx, hb, hml, hown, hts⟩ (kX2_faultOfNew l D cA ad (fun k => h0 (k + 23)) _ N a1 s0.1.2.2.2.2.1 q1 c1) qco_X2_faultOfNew qml_X12_149 qin_X2_faultOfNew qse_X2_faultOfNew qini_X2 (by decide +kernel) (by rw [← erm]; rfl) hN hE hS hA hK hP hD [23, 24, 25] rfl rfl (q0 := 0) rfl rfl rfl rfl rfl hl.1 rfl (lv_room (Nat.le_of_ble_eq_true rfl)) dX12_bill_8 ⟨Nat.zero_le _, Nat.zero_le _⟩) hP hD hS hA [23, 24, 25] rfl rfl (xR2 (F := 61) [23, 24, 25] (xselH [none, none, none, none, none, none, none, none, none, none, none, none, none, none, none, none, none, none, none, none, none, none, none, some 0, some 1, some 2, none, none, none, none, none, none, none, none, none, none, none, none, none, none, none, none, none, none, none, none, none, none, none, none, none, none, none, none, none, none, none, none, none, none, none] rfl (by decide +kernel)) rfl rfl (by decide +kernel)) (fun H locs hP hD hS => ?_)
  obtain ⟨q2, c2, h⟩ := x_call h
  refine vCall (w2 := ThlW cA ad hr h0 s0 ++ RowW cA hr s1) (vRunS (n := 1) (As := [.ref (ad q1)]) (rest := []) ⟨hx, hb, hml, hown, hts⟩ (kX12_refuse l hl9 D cA ad  _ N q1 q2 c2) qco_X12_refuse qml_X12_61 qst_X12_refuse qini_X12 (by decide +kernel) (by rw [← erm]; rfl) hN hE hV hS hA hK hP hD [] rfl rfl rfl rfl hl.1 rfl (lv_room (Nat.le_of_ble_eq_true rfl)) dX12_bill_11 ⟨by rw [← erm]; exact Nat.le_of_ble_eq_true rfl, by rw [← erm]; exact Nat.le_of_ble_eq_true rfl⟩) hP hD hS hA [] rfl rfl (xR2 (F := 61) [] (xselH [none, none, none, none, none, none, none, none, none, none, none, none, none, none, none, none, none, none, none, none, none, none, none, none, none, none, none, none, none, none, none, none, none, none, none, none, none, none, none, none, none, none, none, none, none, none, none, none, none, none, none, none, none, none, none, none, none, none, none, none, none] rfl (by decide +kernel)) rfl rfl (by decide +kernel)) (fun x2 q9 ce H locs hP hD hS hc1 hc2 hc3 => ?_) (fun x2 H locs hP hD hS => ?_)
  · have h := x_th1 h x2
    have h := Option.some.inj h
    subst h
    exact vOut (x := q2) htab hlocks hK hP hD hS x2 hc1 hc2 hc3 (Nat.le_of_ble_eq_true rfl) (Nat.le_of_ble_eq_true rfl)
  have h := x_th0 h x2
  refine lv_aload_n hx hb dX12_bill_14 rfl (lv_at hl 0 rfl) ?_
  obtain ⟨q3, c3, h⟩ := x_call h
  refine xCallH (w2 := ThlW cA ad hr h0 q3.1 ++ RowW cA hr q3.2) (zRunV (n := 0) (As := []) (rest := []) ⟨hx, hb, hml, hown, hts⟩ (kX12_record l D cA ad hr h0 _ N s0 s1 q3 c3) qco_X12_record qml_X12_65 qin_X12_record qse_X12_record qini_X12 (by decide +kernel) (by rw [← erm]; rfl) hN hE hS hA hK hP hD ([0, 1, 2, 3, 4, 5, 6, 7, 8, 9, 10, 11, 12, 13, 14, 15, 16, 17, 18, 19, 20, 21, 22, 23, 24, 25, 26, 27, 28, 29, 30, 31, 32, 33, 34, 35, 36, 37, 38, 39, 40, 41, 42, 43, 44, 45, 46, 47, 48, 49, 50, 51, 52, 53, 54, 55, 56, 57, 58, 59, 60] ++ tp 61) (xTailC [0, 1, 2, 3, 4, 5, 6, 7, 8, 9, 10, 11, 12, 13, 14, 15, 16, 17, 18, 19, 20, 21, 22, 23, 24, 25, 26, 27, 28, 29, 30, 31, 32, 33, 34, 35, 36, 37, 38, 39, 40, 41, 42, 43, 44, 45, 46, 47, 48, 49, 50, 51, 52, 53, 54, 55, 56, 57, 58, 59, 60] rfl rfl) (by decide +kernel) (q0 := 0) rfl rfl rfl rfl rfl hl.1 rfl (lv_room (Nat.le_of_ble_eq_true rfl)) dX12_bill_15 ⟨by rw [← erm]; exact Nat.le_of_ble_eq_true rfl, by rw [← erm]; exact Nat.le_of_ble_eq_true rfl⟩) hP hD hS hA ([0, 1, 2, 3, 4, 5, 6, 7, 8, 9, 10, 11, 12, 13, 14, 15, 16, 17, 18, 19, 20, 21, 22, 23, 24, 25, 26, 27, 28, 29, 30, 31, 32, 33, 34, 35, 36, 37, 38, 39, 40, 41, 42, 43, 44, 45, 46, 47, 48, 49, 50, 51, 52, 53, 54, 55, 56, 57, 58, 59, 60] ++ tp 61) (xTailC [0, 1, 2, 3, 4, 5, 6, 7, 8, 9, 10, 11, 12, 13, 14, 15, 16, 17, 18, 19, 20, 21, 22, 23, 24, 25, 26, 27, 28, 29, 30, 31, 32, 33, 34, 35, 36, 37, 38, 39, 40, 41, 42, 43, 44, 45, 46, 47, 48, 49, 50, 51, 52, 53, 54, 55, 56, 57, 58, 59, 60] rfl rfl) (xTailF rfl) (xT2 (F := 61) [0, 1, 2, 3, 4, 5, 6, 7, 8, 9, 10, 11, 12, 13, 14, 15, 16, 17, 18, 19, 20, 21, 22, 23, 24, 25, 26, 27, 28, 29, 30, 31, 32, 33, 34, 35, 36, 37, 38, 39, 40, 41, 42, 43, 44, 45, 46, 47, 48, 49, 50, 51, 52, 53, 54, 55, 56, 57, 58, 59, 60] (xselH [some 0, some 1, some 2, some 3, some 4, some 5, some 6, some 7, some 8, some 9, some 10, some 11, some 12, some 13, some 14, some 15, some 16, some 17, some 18, some 19, some 20, some 21, some 22, some 23, some 24, some 25, some 26, some 27, some 28, some 29, some 30, some 31, some 32, some 33, some 34, some 35, some 36, some 37, some 38, some 39, some 40, some 41, some 42, some 43, some 44, some 45, some 46, some 47, some 48, some 49, some 50, some 51, some 52, some 53, some 54, some 55, some 56, some 57, some 58, some 59, some 60] rfl (by decide +kernel)) rfl rfl rfl) (fun H locs hP hD hS => ?_)
  refine lv_aload_n hx hb dX12_bill_18 rfl (lv_at hl 0 rfl) ?_
  refine va_get (D := D) (ci := 11) (v := .ref (h0 1)) (C := RX12) (T := TX12) (N := 10) hx hb hts iX12 hown hK hP 0 rfl rfl 0 (by decide) (hts _ qfl_X12_10) (fun _ h9 => h9) rfl dX12_bill_19 ?_
  refine lv_iload_n hx hb dX12_bill_22 rfl (lv_at hl 1 rfl) ?_
  obtain ⟨q4, c4, h⟩ := x_call h
  refine xCallH (w2 := ThlW cA ad hr h0 ((Thls0 q3.1 q4.2)) ++ RowW cA hr q3.2) (zRunV (n := 1) (As := [.int a1]) (rest := []) ⟨hx, hb, hml, hown, hts⟩ (kX3_writeBill l D cA ad (fun k => h0 (k + 1)) _ N a1 q3.1.1 q4 c4) qco_X3_writeBill qml_X12_153 qin_X3_writeBill qse_X3_writeBill qini_X3 (by decide +kernel) (by rw [← erm]; rfl) hN hE hS hA hK hP hD [1, 2, 3, 4, 5, 6, 7, 8, 9, 10, 11, 12, 13, 14, 15, 16, 17, 18, 19, 20, 21, 22, 23, 24, 25] rfl rfl (q0 := 0) rfl rfl rfl rfl rfl hl.1 rfl (lv_room (Nat.le_of_ble_eq_true rfl)) dX12_bill_23 ⟨by rw [← erm]; exact Nat.le_of_ble_eq_true rfl, by rw [← erm]; exact Nat.le_of_ble_eq_true rfl⟩) hP hD hS hA [1, 2, 3, 4, 5, 6, 7, 8, 9, 10, 11, 12, 13, 14, 15, 16, 17, 18, 19, 20, 21, 22, 23, 24, 25] rfl rfl (xR2 (F := 61) [1, 2, 3, 4, 5, 6, 7, 8, 9, 10, 11, 12, 13, 14, 15, 16, 17, 18, 19, 20, 21, 22, 23, 24, 25] (xselH [none, some 0, some 1, some 2, some 3, some 4, some 5, some 6, some 7, some 8, some 9, some 10, some 11, some 12, some 13, some 14, some 15, some 16, some 17, some 18, some 19, some 20, some 21, some 22, some 23, some 24, none, none, none, none, none, none, none, none, none, none, none, none, none, none, none, none, none, none, none, none, none, none, none, none, none, none, none, none, none, none, none, none, none, none, none] rfl (by decide +kernel)) rfl rfl (by decide +kernel)) (fun H locs hP hD hS => ?_)
  have h := Option.some.inj h
  subst h
  refine W.widen (k := 1) (n := 6) (Nat.le_of_ble_eq_true rfl) (Nat.le_of_ble_eq_true rfl) ?_
  exact vIret hx hb hr9 hlocks hP hK hD hS dX12_bill_26
def fX12_pay (N : Nat) (a1 : Int32) (s0 : ThlS) (s1 : (Nat → BooS)) : Option (Nat × Int32 × ThlS × (Nat → BooS)) :=
  xcall (fX2_faultOfPayment N a1 s0.1.2.2.2.2.1) fun q1 =>
  xcall (fX12_refuse N q1) fun q2 =>
  xthr q2 (some (q2, 0, s0, s1)) <|
  xcall (fX12_record N s0 s1) fun q3 =>
  xcall (fX7_chosenSet N a1 q3.1.2.2.2.1 q3.1.1.2.2.2.2.1) fun q4 =>
  xcall (fX3_takePayment N a1 q4.1 ((Boos4 q3.1.1 q4.2.2))) fun q5 =>
  some (0, q5.1, (Thls3 (Thls0 q3.1 q5.2) q4.2.1), q3.2)
set_option maxRecDepth 100000 in
set_option maxHeartbeats 4000000 in
theorem kX12_pay (l : Launch) (hl9 : l.stackTraces = false) (D : va_G) (cA : Nat → ClassId) (ad : Nat → Nat) (hr : Nat → Nat → Nat) (h0 : Nat → Nat) (sz N : Nat) (a1 : Int32) (s0 : ThlS) (s1 : (Nat → BooS)) (q : Nat × Int32 × ThlS × (Nat → BooS)) (h : fX12_pay N a1 s0 s1 = some q) : vM l yX12_pay cX12_pay 2 (some .int) ({ frames := 7, cells := 1, slots := 6, locals := 123 }) D cA ad (ThlW cA ad hr h0 s0 ++ RowW cA hr s1) sz [.ref (h0 0), .int a1] q.1 (some (.int q.2.1)) (ThlW cA ad hr h0 q.2.2.1 ++ RowW cA hr q.2.2.2) 1 6 := by
  generalize erm : ({ frames := 7, cells := 1, slots := 6, locals := 123 } : Room) = rm
  refine vMet (by decide) (Nat.le_of_ble_eq_true rfl) ?_
  intro p e s m below meth c hx hb hr9 hlocks hml hts hown hin hK hP A eA hD hS hA hsz hN hE hV htab ls hl
  have hl : lv_has ls 2 [(0, .ref (h0 0)), (1, .int a1)] := hl
  clear eA
  rw [fX12_pay] at h
  refine lv_aload_n hx hb dX12_pay_0 rfl (lv_at hl 0 rfl) ?_
  refine va_get (D := D) (ci := 11) (v := .ref (h0 1)) (C := RX12) (T := TX12) (N := 10) hx hb hts iX12 hown hK hP 0 rfl rfl 0 (by decide) (hts _ qfl_X12_10) (fun _ h9 => h9) rfl dX12_pay_1 ?_
  refine va_getN (D := D) (ci := 4) (v := .ref (h0 23)) (C := RX3) (T := TX3) (N := 7) hx hb hts iX3 hown hK hP 1 rfl rfl 4 (by decide) (hN.use qfn_X12_145) (fun _ h9 => h9) rfl dX12_pay_4 ?_
  refine lv_iload_n hx hb dX12_pay_7 rfl (lv_at hl 1 rfl) ?_
  obtain ⟨q1, c1, h⟩ := x_call h
  refine xCallH (w2 := ThlW cA ad hr h0 s0 ++ RowW cA hr s1) (zRunV (n := 1) (As := [.int a1]) (rest := []) ⟨hx, hb, hml, hown, hts⟩ (kX2_faultOfPayment l D cA ad (fun k => h0 (k + 23)) _ N a1 s0.1.2.2.2.2.1 q1 c1) qco_X2_faultOfPayment qml_X12_156 qin_X2_faultOfPayment qse_X2_faultOfPayment qini_X2 (by decide +kernel) (by rw [← erm]; rfl) hN hE hS hA hK hP hD [23, 24, 25] rfl rfl (q0 := 0) rfl rfl rfl rfl rfl hl.1 rfl (lv_room (Nat.le_of_ble_eq_true rfl)) dX12_pay_8 ⟨Nat.zero_le _, Nat.zero_le _⟩) hP hD hS hA [23, 24, 25] rfl rfl (xR2 (F := 61) [23, 24, 25] (xselH [none, none, none, none, none, none, none, none, none, none, none, none, none, none, none, none, none, none, none, none, none, none, none, some 0, some 1, some 2, none, none, none, none, none, none, none, none, none, none, none, none, none, none, none, none, none, none, none, none, none, none, none, none, none, none, none, none, none, none, none, none, none, none, none] rfl (by decide +kernel)) rfl rfl (by decide +kernel)) (fun H locs hP hD hS => ?_)
  obtain ⟨q2, c2, h⟩ := x_call h
  refine vCall (w2 := ThlW cA ad hr h0 s0 ++ RowW cA hr s1) (vRunS (n := 1) (As := [.ref (ad q1)]) (rest := []) ⟨hx, hb, hml, hown, hts⟩ (kX12_refuse l hl9 D cA ad  _ N q1 q2 c2) qco_X12_refuse qml_X12_61 qst_X12_refuse qini_X12 (by decide +kernel) (by rw [← erm]; rfl) hN hE hV hS hA hK hP hD [] rfl rfl rfl rfl hl.1 rfl (lv_room (Nat.le_of_ble_eq_true rfl)) dX12_pay_11 ⟨by rw [← erm]; exact Nat.le_of_ble_eq_true rfl, by rw [← erm]; exact Nat.le_of_ble_eq_true rfl⟩) hP hD hS hA [] rfl rfl (xR2 (F := 61) [] (xselH [none, none, none, none, none, none, none, none, none, none, none, none, none, none, none, none, none, none, none, none, none, none, none, none, none, none, none, none, none, none, none, none, none, none, none, none, none, none, none, none, none, none, none, none, none, none, none, none, none, none, none, none, none, none, none, none, none, none, none, none, none] rfl (by decide +kernel)) rfl rfl (by decide +kernel)) (fun x2 q9 ce H locs hP hD hS hc1 hc2 hc3 => ?_) (fun x2 H locs hP hD hS => ?_)
  · have h := x_th1 h x2
    have h := Option.some.inj h
    subst h
    exact vOut (x := q2) htab hlocks hK hP hD hS x2 hc1 hc2 hc3 (Nat.le_of_ble_eq_true rfl) (Nat.le_of_ble_eq_true rfl)
  have h := x_th0 h x2
  refine lv_aload_n hx hb dX12_pay_14 rfl (lv_at hl 0 rfl) ?_
  obtain ⟨q3, c3, h⟩ := x_call h
  refine xCallH (w2 := ThlW cA ad hr h0 q3.1 ++ RowW cA hr q3.2) (zRunV (n := 0) (As := []) (rest := []) ⟨hx, hb, hml, hown, hts⟩ (kX12_record l D cA ad hr h0 _ N s0 s1 q3 c3) qco_X12_record qml_X12_65 qin_X12_record qse_X12_record qini_X12 (by decide +kernel) (by rw [← erm]; rfl) hN hE hS hA hK hP hD ([0, 1, 2, 3, 4, 5, 6, 7, 8, 9, 10, 11, 12, 13, 14, 15, 16, 17, 18, 19, 20, 21, 22, 23, 24, 25, 26, 27, 28, 29, 30, 31, 32, 33, 34, 35, 36, 37, 38, 39, 40, 41, 42, 43, 44, 45, 46, 47, 48, 49, 50, 51, 52, 53, 54, 55, 56, 57, 58, 59, 60] ++ tp 61) (xTailC [0, 1, 2, 3, 4, 5, 6, 7, 8, 9, 10, 11, 12, 13, 14, 15, 16, 17, 18, 19, 20, 21, 22, 23, 24, 25, 26, 27, 28, 29, 30, 31, 32, 33, 34, 35, 36, 37, 38, 39, 40, 41, 42, 43, 44, 45, 46, 47, 48, 49, 50, 51, 52, 53, 54, 55, 56, 57, 58, 59, 60] rfl rfl) (by decide +kernel) (q0 := 0) rfl rfl rfl rfl rfl hl.1 rfl (lv_room (Nat.le_of_ble_eq_true rfl)) dX12_pay_15 ⟨by rw [← erm]; exact Nat.le_of_ble_eq_true rfl, by rw [← erm]; exact Nat.le_of_ble_eq_true rfl⟩) hP hD hS hA ([0, 1, 2, 3, 4, 5, 6, 7, 8, 9, 10, 11, 12, 13, 14, 15, 16, 17, 18, 19, 20, 21, 22, 23, 24, 25, 26, 27, 28, 29, 30, 31, 32, 33, 34, 35, 36, 37, 38, 39, 40, 41, 42, 43, 44, 45, 46, 47, 48, 49, 50, 51, 52, 53, 54, 55, 56, 57, 58, 59, 60] ++ tp 61) (xTailC [0, 1, 2, 3, 4, 5, 6, 7, 8, 9, 10, 11, 12, 13, 14, 15, 16, 17, 18, 19, 20, 21, 22, 23, 24, 25, 26, 27, 28, 29, 30, 31, 32, 33, 34, 35, 36, 37, 38, 39, 40, 41, 42, 43, 44, 45, 46, 47, 48, 49, 50, 51, 52, 53, 54, 55, 56, 57, 58, 59, 60] rfl rfl) (xTailF rfl) (xT2 (F := 61) [0, 1, 2, 3, 4, 5, 6, 7, 8, 9, 10, 11, 12, 13, 14, 15, 16, 17, 18, 19, 20, 21, 22, 23, 24, 25, 26, 27, 28, 29, 30, 31, 32, 33, 34, 35, 36, 37, 38, 39, 40, 41, 42, 43, 44, 45, 46, 47, 48, 49, 50, 51, 52, 53, 54, 55, 56, 57, 58, 59, 60] (xselH [some 0, some 1, some 2, some 3, some 4, some 5, some 6, some 7, some 8, some 9, some 10, some 11, some 12, some 13, some 14, some 15, some 16, some 17, some 18, some 19, some 20, some 21, some 22, some 23, some 24, some 25, some 26, some 27, some 28, some 29, some 30, some 31, some 32, some 33, some 34, some 35, some 36, some 37, some 38, some 39, some 40, some 41, some 42, some 43, some 44, some 45, some 46, some 47, some 48, some 49, some 50, some 51, some 52, some 53, some 54, some 55, some 56, some 57, some 58, some 59, some 60] rfl (by decide +kernel)) rfl rfl rfl) (fun H locs hP hD hS => ?_)
  refine lv_aload_n hx hb dX12_pay_18 rfl (lv_at hl 0 rfl) ?_
  refine va_get (D := D) (ci := 11) (v := .ref (h0 1)) (C := RX12) (T := TX12) (N := 10) hx hb hts iX12 hown hK hP 0 rfl rfl 0 (by decide) (hts _ qfl_X12_10) (fun _ h9 => h9) rfl dX12_pay_19 ?_
  refine lv_iload_n hx hb dX12_pay_22 rfl (lv_at hl 1 rfl) ?_
  refine lv_aload_n hx hb dX12_pay_23 rfl (lv_at hl 0 rfl) ?_
  refine va_get (D := D) (ci := 11) (v := .ref (h0 53)) (C := RX12) (T := TX12) (N := 10) hx hb hts iX12 hown hK hP 0 rfl rfl 3 (by decide) (hts _ qfl_X12_29) (fun _ h9 => h9) rfl dX12_pay_24 ?_
  refine lv_aload_n hx hb dX12_pay_27 rfl (lv_at hl 0 rfl) ?_
  refine va_get (D := D) (ci := 11) (v := .ref (h0 1)) (C := RX12) (T := TX12) (N := 10) hx hb hts iX12 hown hK hP 0 rfl rfl 0 (by decide) (hts _ qfl_X12_10) (fun _ h9 => h9) rfl dX12_pay_28 ?_
  refine va_getN (D := D) (ci := 4) (v := .ref (h0 23)) (C := RX3) (T := TX3) (N := 7) hx hb hts iX3 hown hK hP 1 rfl rfl 4 (by decide) (hN.use qfn_X12_145) (fun _ h9 => h9) rfl dX12_pay_31 ?_
  refine lv_iload_n hx hb dX12_pay_34 rfl (lv_at hl 1 rfl) ?_
  obtain ⟨q4, c4, h⟩ := x_call h
  refine xCallH (w2 := ThlW cA ad hr h0 ((Thls3 (Thls0 q3.1 ((Boos4 q3.1.1 q4.2.2))) q4.2.1)) ++ RowW cA hr q3.2) (zRunV (n := 2) (As := [.ref (h0 23), .int a1]) (rest := [.int a1, .ref (h0 1)]) ⟨hx, hb, hml, hown, hts⟩ (kX7_chosenSet l D cA ad (fun k => h0 (k + 53)) (fun k => h0 (k + 23)) _ N a1 q3.1.2.2.2.1 q3.1.1.2.2.2.2.1 q4 c4) qco_X7_chosenSet qml_X12_159 qin_X7_chosenSet qse_X7_chosenSet qini_X7 (by decide +kernel) (by rw [← erm]; rfl) hN hE hS hA hK hP hD [53, 54, 55, 23, 24, 25] rfl rfl (q0 := 0) rfl rfl rfl rfl rfl hl.1 rfl (lv_room (Nat.le_of_ble_eq_true rfl)) dX12_pay_35 ⟨by rw [← erm]; exact Nat.le_of_ble_eq_true rfl, by rw [← erm]; exact Nat.le_of_ble_eq_true rfl⟩) hP hD hS hA [53, 54, 55, 23, 24, 25] rfl rfl (xR2 (F := 61) [53, 54, 55, 23, 24, 25] (xselH [none, none, none, none, none, none, none, none, none, none, none, none, none, none, none, none, none, none, none, none, none, none, none, some 3, some 4, some 5, none, none, none, none, none, none, none, none, none, none, none, none, none, none, none, none, none, none, none, none, none, none, none, none, none, none, none, some 0, some 1, some 2, none, none, none, none, none] rfl (by decide +kernel)) rfl rfl (by decide +kernel)) (fun H locs hP hD hS => ?_)
  obtain ⟨q5, c5, h⟩ := x_call h
  refine xCallH (w2 := ThlW cA ad hr h0 ((Thls3 (Thls0 q3.1 q5.2) q4.2.1)) ++ RowW cA hr q3.2) (zRunV (n := 2) (As := [.int a1, .int q4.1]) (rest := []) ⟨hx, hb, hml, hown, hts⟩ (kX3_takePayment l D cA ad (fun k => h0 (k + 1)) _ N a1 q4.1 ((Boos4 q3.1.1 q4.2.2)) q5 c5) qco_X3_takePayment qml_X12_163 qin_X3_takePayment qse_X3_takePayment qini_X3 (by decide +kernel) (by rw [← erm]; rfl) hN hE hS hA hK hP hD [1, 2, 3, 4, 5, 6, 7, 8, 9, 10, 11, 12, 13, 14, 15, 16, 17, 18, 19, 20, 21, 22, 23, 24, 25] rfl rfl (q0 := 0) rfl rfl rfl rfl rfl hl.1 rfl (lv_room (Nat.le_of_ble_eq_true rfl)) dX12_pay_38 ⟨by rw [← erm]; exact Nat.le_of_ble_eq_true rfl, by rw [← erm]; exact Nat.le_of_ble_eq_true rfl⟩) hP hD hS hA [1, 2, 3, 4, 5, 6, 7, 8, 9, 10, 11, 12, 13, 14, 15, 16, 17, 18, 19, 20, 21, 22, 23, 24, 25] rfl rfl (xR2 (F := 61) [1, 2, 3, 4, 5, 6, 7, 8, 9, 10, 11, 12, 13, 14, 15, 16, 17, 18, 19, 20, 21, 22, 23, 24, 25] (xselH [none, some 0, some 1, some 2, some 3, some 4, some 5, some 6, some 7, some 8, some 9, some 10, some 11, some 12, some 13, some 14, some 15, some 16, some 17, some 18, some 19, some 20, some 21, some 22, some 23, some 24, none, none, none, none, none, none, none, none, none, none, none, none, none, none, none, none, none, none, none, none, none, none, none, none, none, none, none, none, none, none, none, none, none, none, none] rfl (by decide +kernel)) rfl rfl (by decide +kernel)) (fun H locs hP hD hS => ?_)
  have h := Option.some.inj h
  subst h
  refine W.widen (k := 1) (n := 6) (Nat.le_of_ble_eq_true rfl) (Nat.le_of_ble_eq_true rfl) ?_
  exact vIret hx hb hr9 hlocks hP hK hD hS dX12_pay_41
def fX12_checkAccount (N : Nat) (a1 : Int32) (s0 : ThlS) : Option (Nat) :=
  xcall (fX1_has N a1 s0.1.1) fun q1 =>
  if q1 = 0 then
    some 1
  else
    some 0
set_option maxRecDepth 100000 in
set_option maxHeartbeats 4000000 in
theorem kX12_checkAccount (l : Launch) (hl9 : l.stackTraces = false) (D : va_G) (cA : Nat → ClassId) (ad : Nat → Nat) (hr : Nat → Nat → Nat) (h0 : Nat → Nat) (sz N : Nat) (a1 : Int32) (s0 : ThlS) (q : Nat) (h : fX12_checkAccount N a1 s0 = some q) : vM l yX12_checkAccount cX12_checkAccount 2 none ({ frames := 6, cells := 1, slots := 6, locals := 90 }) D cA ad (ThlW cA ad hr h0 s0) sz [.ref (h0 0), .int a1] q (none) (ThlW cA ad hr h0 s0) 1 6 := by
  generalize erm : ({ frames := 6, cells := 1, slots := 6, locals := 90 } : Room) = rm
  refine vMet (by decide) (Nat.le_of_ble_eq_true rfl) ?_
  intro p e s m below meth c hx hb hr9 hlocks hml hts hown hin hK hP A eA hD hS hA hsz hN hE hV htab ls hl
  have hl : lv_has ls 2 [(0, .ref (h0 0)), (1, .int a1)] := hl
  clear eA
  rw [fX12_checkAccount] at h
  refine lv_aload_n hx hb dX12_checkAccount_0 rfl (lv_at hl 0 rfl) ?_
  refine va_get (D := D) (ci := 11) (v := .ref (h0 1)) (C := RX12) (T := TX12) (N := 10) hx hb hts iX12 hown hK hP 0 rfl rfl 0 (by decide) (hts _ qfl_X12_10) (fun _ h9 => h9) rfl dX12_checkAccount_1 ?_
  refine va_getN (D := D) (ci := 4) (v := .ref (h0 2)) (C := RX3) (T := TX3) (N := 7) hx hb hts iX3 hown hK hP 1 rfl rfl 0 (by decide) (hN.use qfn_X12_51) (fun _ h9 => h9) rfl dX12_checkAccount_4 ?_
  refine lv_iload_n hx hb dX12_checkAccount_7 rfl (lv_at hl 1 rfl) ?_
  obtain ⟨q1, c1, h⟩ := x_call h
  refine xCallH (w2 := ThlW cA ad hr h0 s0) (zRunV (n := 1) (As := [.int a1]) (rest := []) ⟨hx, hb, hml, hown, hts⟩ (kX1_has l D cA ad (fun k => h0 (k + 2)) _ N a1 s0.1.1 q1 c1) qco_X1_has qml_X12_443 qin_X1_has qse_X1_has qini_X1 (by decide +kernel) (by rw [← erm]; rfl) hN hE hS hA hK hP hD [2, 3, 4, 5, 6] rfl rfl (q0 := 0) rfl rfl rfl rfl rfl hl.1 rfl (lv_room (Nat.le_of_ble_eq_true rfl)) dX12_checkAccount_8 ⟨Nat.zero_le _, Nat.zero_le _⟩) hP hD hS hA [2, 3, 4, 5, 6] rfl rfl (xselH [none, none, some 0, some 1, some 2, some 3, some 4, none, none, none, none, none, none, none, none, none, none, none, none, none, none, none, none, none, none, none, none, none, none, none, none, none, none, none, none, none, none, none, none, none, none, none, none, none, none, none, none, none, none, none, none, none, none, none, none, none, none, none, none, none, none] rfl (by decide +kernel)) (fun H locs hP hD hS => ?_)
  refine lv_if_ne (tgt := 25) hx hb dX12_checkAccount_11 (by decide) (fun c2 => ?_) (fun c2 => ?_)
  · have h := x_f h c2
    have h := Option.some.inj h
    subst h
    refine W.widen (k := 1) (n := 6) (Nat.le_of_ble_eq_true rfl) (Nat.le_of_ble_eq_true rfl) ?_
    exact vVret hx hb hr9 hlocks hP hK hD hS dX12_checkAccount_25
  · have h := x_t h c2
    have h := Option.some.inj h
    subst h
    exact vThrowW (x := 1) (text := "no such account") (is := 421) hx hb hl9 hown hts hN hV hA (by decide) xThr1 xThg1 (by decide +kernel) hK hP hD hS (hl.1.trans hml.symm) dX12_checkAccount_14 dX12_checkAccount_17 dX12_checkAccount_18 dX12_checkAccount_21 dX12_checkAccount_24 htab (by rw [← erm]; rfl) hlocks (by decide) (Nat.le_of_ble_eq_true rfl) (Nat.le_of_ble_eq_true rfl)
def fX12_kind (N : Nat) (a1 : Int32) (s0 : ThlS) : Option (Nat × Int32) :=
  xcall (fX12_checkAccount N a1 s0) fun q1 =>
  xthr q1 (some (q1, 0)) <|
  xcall (fX1_kindAt N a1 s0.1.1) fun q2 =>
  xnz (xnar .char q2) <|
  some (0, q2)
set_option maxRecDepth 100000 in
set_option maxHeartbeats 4000000 in
theorem kX12_kind (l : Launch) (hl9 : l.stackTraces = false) (D : va_G) (cA : Nat → ClassId) (ad : Nat → Nat) (hr : Nat → Nat → Nat) (h0 : Nat → Nat) (sz N : Nat) (a1 : Int32) (s0 : ThlS) (q : Nat × Int32) (h : fX12_kind N a1 s0 = some q) : vM l yX12_kind cX12_kind 2 (some .char) ({ frames := 7, cells := 1, slots := 6, locals := 111 }) D cA ad (ThlW cA ad hr h0 s0) sz [.ref (h0 0), .int a1] q.1 (some (.int q.2)) (ThlW cA ad hr h0 s0) 1 6 := by
  generalize erm : ({ frames := 7, cells := 1, slots := 6, locals := 111 } : Room) = rm
  refine vMet (by decide) (Nat.le_of_ble_eq_true rfl) ?_
  intro p e s m below meth c hx hb hr9 hlocks hml hts hown hin hK hP A eA hD hS hA hsz hN hE hV htab ls hl
  have hl : lv_has ls 2 [(0, .ref (h0 0)), (1, .int a1)] := hl
  clear eA
  rw [fX12_kind] at h
  refine lv_aload_n hx hb dX12_kind_0 rfl (lv_at hl 0 rfl) ?_
  refine lv_iload_n hx hb dX12_kind_1 rfl (lv_at hl 1 rfl) ?_
  obtain ⟨q1, c1, h⟩ := x_call h
  refine vCall (w2 := ThlW cA ad hr h0 s0) (vRunV (n := 1) (As := [.int a1]) (rest := []) ⟨hx, hb, hml, hown, hts⟩ (kX12_checkAccount l hl9 D cA ad hr h0 _ N a1 s0 q1 c1) qco_X12_checkAccount qml_X12_176 qin_X12_checkAccount qse_X12_checkAccount qini_X12 (by decide +kernel) (by rw [← erm]; rfl) hN hE hV hS hA hK hP hD [0, 1, 2, 3, 4, 5, 6, 7, 8, 9, 10, 11, 12, 13, 14, 15, 16, 17, 18, 19, 20, 21, 22, 23, 24, 25, 26, 27, 28, 29, 30, 31, 32, 33, 34, 35, 36, 37, 38, 39, 40, 41, 42, 43, 44, 45, 46, 47, 48, 49, 50, 51, 52, 53, 54, 55, 56, 57, 58, 59, 60] rfl rfl (q0 := 0) rfl rfl rfl rfl rfl hl.1 rfl (lv_room (Nat.le_of_ble_eq_true rfl)) dX12_kind_2 ⟨by rw [← erm]; exact Nat.le_of_ble_eq_true rfl, by rw [← erm]; exact Nat.le_of_ble_eq_true rfl⟩) hP hD hS hA [0, 1, 2, 3, 4, 5, 6, 7, 8, 9, 10, 11, 12, 13, 14, 15, 16, 17, 18, 19, 20, 21, 22, 23, 24, 25, 26, 27, 28, 29, 30, 31, 32, 33, 34, 35, 36, 37, 38, 39, 40, 41, 42, 43, 44, 45, 46, 47, 48, 49, 50, 51, 52, 53, 54, 55, 56, 57, 58, 59, 60] rfl rfl (xselH [some 0, some 1, some 2, some 3, some 4, some 5, some 6, some 7, some 8, some 9, some 10, some 11, some 12, some 13, some 14, some 15, some 16, some 17, some 18, some 19, some 20, some 21, some 22, some 23, some 24, some 25, some 26, some 27, some 28, some 29, some 30, some 31, some 32, some 33, some 34, some 35, some 36, some 37, some 38, some 39, some 40, some 41, some 42, some 43, some 44, some 45, some 46, some 47, some 48, some 49, some 50, some 51, some 52, some 53, some 54, some 55, some 56, some 57, some 58, some 59, some 60] rfl (by decide +kernel)) (fun x1 q9 ce H locs hP hD hS hc1 hc2 hc3 => ?_) (fun x1 H locs hP hD hS => ?_)
  · have h := x_th1 h x1
    have h := Option.some.inj h
    subst h
    exact vOut (x := q1) htab hlocks hK hP hD hS x1 hc1 hc2 hc3 (Nat.le_of_ble_eq_true rfl) (Nat.le_of_ble_eq_true rfl)
  have h := x_th0 h x1
  refine lv_aload_n hx hb dX12_kind_5 rfl (lv_at hl 0 rfl) ?_
  refine va_get (D := D) (ci := 11) (v := .ref (h0 1)) (C := RX12) (T := TX12) (N := 10) hx hb hts iX12 hown hK hP 0 rfl rfl 0 (by decide) (hts _ qfl_X12_10) (fun _ h9 => h9) rfl dX12_kind_6 ?_
  refine va_getN (D := D) (ci := 4) (v := .ref (h0 2)) (C := RX3) (T := TX3) (N := 7) hx hb hts iX3 hown hK hP 1 rfl rfl 0 (by decide) (hN.use qfn_X12_51) (fun _ h9 => h9) rfl dX12_kind_9 ?_
  refine lv_iload_n hx hb dX12_kind_12 rfl (lv_at hl 1 rfl) ?_
  obtain ⟨q2, c2, h⟩ := x_call h
  refine xCallH (w2 := ThlW cA ad hr h0 s0) (zRunV (n := 1) (As := [.int a1]) (rest := []) ⟨hx, hb, hml, hown, hts⟩ (kX1_kindAt l D cA ad (fun k => h0 (k + 2)) _ N a1 s0.1.1 q2 c2) qco_X1_kindAt qml_X12_76 qin_X1_kindAt qse_X1_kindAt qini_X1 (by decide +kernel) (by rw [← erm]; rfl) hN hE hS hA hK hP hD [2, 3, 4, 5, 6] rfl rfl (q0 := 0) rfl rfl rfl rfl rfl hl.1 rfl (lv_room (Nat.le_of_ble_eq_true rfl)) dX12_kind_13 ⟨by rw [← erm]; exact Nat.le_of_ble_eq_true rfl, by rw [← erm]; exact Nat.le_of_ble_eq_true rfl⟩) hP hD hS hA [2, 3, 4, 5, 6] rfl rfl (xselH [none, none, some 0, some 1, some 2, some 3, some 4, none, none, none, none, none, none, none, none, none, none, none, none, none, none, none, none, none, none, none, none, none, none, none, none, none, none, none, none, none, none, none, none, none, none, none, none, none, none, none, none, none, none, none, none, none, none, none, none, none, none, none, none, none, none] rfl (by decide +kernel)) (fun H locs hP hD hS => ?_)
  obtain ⟨z3, h⟩ := x_nz h
  have h := Option.some.inj h
  subst h
  refine W.widen (k := 1) (n := 6) (Nat.le_of_ble_eq_true rfl) (Nat.le_of_ble_eq_true rfl) ?_
  exact vZret hx hb hr9 hlocks (xnar_n z3) hP hK hD hS dX12_kind_16
def fX12_parent (N : Nat) (a1 : Int32) (s0 : ThlS) : Option (Nat × Int32) :=
  xcall (fX12_checkAccount N a1 s0) fun q1 =>
  xthr q1 (some (q1, 0)) <|
  xcall (fX1_parentAt N a1 s0.1.1) fun q2 =>
  if q2 = (-1) then
    some (2, 0)
  else
    some (0, q2)
set_option maxRecDepth 100000 in
set_option maxHeartbeats 4000000 in
theorem kX12_parent (l : Launch) (hl9 : l.stackTraces = false) (D : va_G) (cA : Nat → ClassId) (ad : Nat → Nat) (hr : Nat → Nat → Nat) (h0 : Nat → Nat) (sz N : Nat) (a1 : Int32) (s0 : ThlS) (q : Nat × Int32) (h : fX12_parent N a1 s0 = some q) : vM l yX12_parent cX12_parent 3 (some .int) ({ frames := 7, cells := 2, slots := 12, locals := 111 }) D cA ad (ThlW cA ad hr h0 s0) sz [.ref (h0 0), .int a1] q.1 (some (.int q.2)) (ThlW cA ad hr h0 s0) 2 12 := by
  generalize erm : ({ frames := 7, cells := 2, slots := 12, locals := 111 } : Room) = rm
  refine vMet (by decide) (Nat.le_of_ble_eq_true rfl) ?_
  intro p e s m below meth c hx hb hr9 hlocks hml hts hown hin hK hP A eA hD hS hA hsz hN hE hV htab ls hl
  have hl : lv_has ls 3 [(0, .ref (h0 0)), (1, .int a1)] := hl
  clear eA
  rw [fX12_parent] at h
  refine lv_aload_n hx hb dX12_parent_0 rfl (lv_at hl 0 rfl) ?_
  refine lv_iload_n hx hb dX12_parent_1 rfl (lv_at hl 1 rfl) ?_
  obtain ⟨q1, c1, h⟩ := x_call h
  refine vCall (w2 := ThlW cA ad hr h0 s0) (vRunV (n := 1) (As := [.int a1]) (rest := []) ⟨hx, hb, hml, hown, hts⟩ (kX12_checkAccount l hl9 D cA ad hr h0 _ N a1 s0 q1 c1) qco_X12_checkAccount qml_X12_176 qin_X12_checkAccount qse_X12_checkAccount qini_X12 (by decide +kernel) (by rw [← erm]; rfl) hN hE hV hS hA hK hP hD [0, 1, 2, 3, 4, 5, 6, 7, 8, 9, 10, 11, 12, 13, 14, 15, 16, 17, 18, 19, 20, 21, 22, 23, 24, 25, 26, 27, 28, 29, 30, 31, 32, 33, 34, 35, 36, 37, 38, 39, 40, 41, 42, 43, 44, 45, 46, 47, 48, 49, 50, 51, 52, 53, 54, 55, 56, 57, 58, 59, 60] rfl rfl (q0 := 0) rfl rfl rfl rfl rfl hl.1 rfl (lv_room (Nat.le_of_ble_eq_true rfl)) dX12_parent_2 ⟨by rw [← erm]; exact Nat.le_of_ble_eq_true rfl, by rw [← erm]; exact Nat.le_of_ble_eq_true rfl⟩) hP hD hS hA [0, 1, 2, 3, 4, 5, 6, 7, 8, 9, 10, 11, 12, 13, 14, 15, 16, 17, 18, 19, 20, 21, 22, 23, 24, 25, 26, 27, 28, 29, 30, 31, 32, 33, 34, 35, 36, 37, 38, 39, 40, 41, 42, 43, 44, 45, 46, 47, 48, 49, 50, 51, 52, 53, 54, 55, 56, 57, 58, 59, 60] rfl rfl (xselH [some 0, some 1, some 2, some 3, some 4, some 5, some 6, some 7, some 8, some 9, some 10, some 11, some 12, some 13, some 14, some 15, some 16, some 17, some 18, some 19, some 20, some 21, some 22, some 23, some 24, some 25, some 26, some 27, some 28, some 29, some 30, some 31, some 32, some 33, some 34, some 35, some 36, some 37, some 38, some 39, some 40, some 41, some 42, some 43, some 44, some 45, some 46, some 47, some 48, some 49, some 50, some 51, some 52, some 53, some 54, some 55, some 56, some 57, some 58, some 59, some 60] rfl (by decide +kernel)) (fun x1 q9 ce H locs hP hD hS hc1 hc2 hc3 => ?_) (fun x1 H locs hP hD hS => ?_)
  · have h := x_th1 h x1
    have h := Option.some.inj h
    subst h
    exact vOut (x := q1) htab hlocks hK hP hD hS x1 hc1 hc2 hc3 (Nat.le_of_ble_eq_true rfl) (Nat.le_of_ble_eq_true rfl)
  have h := x_th0 h x1
  refine lv_aload_n hx hb dX12_parent_5 rfl (lv_at hl 0 rfl) ?_
  refine va_get (D := D) (ci := 11) (v := .ref (h0 1)) (C := RX12) (T := TX12) (N := 10) hx hb hts iX12 hown hK hP 0 rfl rfl 0 (by decide) (hts _ qfl_X12_10) (fun _ h9 => h9) rfl dX12_parent_6 ?_
  refine va_getN (D := D) (ci := 4) (v := .ref (h0 2)) (C := RX3) (T := TX3) (N := 7) hx hb hts iX3 hown hK hP 1 rfl rfl 0 (by decide) (hN.use qfn_X12_51) (fun _ h9 => h9) rfl dX12_parent_9 ?_
  refine lv_iload_n hx hb dX12_parent_12 rfl (lv_at hl 1 rfl) ?_
  obtain ⟨q2, c2, h⟩ := x_call h
  refine xCallH (w2 := ThlW cA ad hr h0 s0) (zRunV (n := 1) (As := [.int a1]) (rest := []) ⟨hx, hb, hml, hown, hts⟩ (kX1_parentAt l D cA ad (fun k => h0 (k + 2)) _ N a1 s0.1.1 q2 c2) qco_X1_parentAt qml_X12_179 qin_X1_parentAt qse_X1_parentAt qini_X1 (by decide +kernel) (by rw [← erm]; rfl) hN hE hS hA hK hP hD [2, 3, 4, 5, 6] rfl rfl (q0 := 0) rfl rfl rfl rfl rfl hl.1 rfl (lv_room (Nat.le_of_ble_eq_true rfl)) dX12_parent_13 ⟨by rw [← erm]; exact Nat.le_of_ble_eq_true rfl, by rw [← erm]; exact Nat.le_of_ble_eq_true rfl⟩) hP hD hS hA [2, 3, 4, 5, 6] rfl rfl (xselH [none, none, some 0, some 1, some 2, some 3, some 4, none, none, none, none, none, none, none, none, none, none, none, none, none, none, none, none, none, none, none, none, none, none, none, none, none, none, none, none, none, none, none, none, none, none, none, none, none, none, none, none, none, none, none, none, none, none, none, none, none, none, none, none, none, none] rfl (by decide +kernel)) (fun H locs hP hD hS => ?_)
  refine lv_istore_n (lv' := [(2, .int q2), (0, .ref (h0 0)), (1, .int a1)]) hx hb dX12_parent_16 rfl hl (by decide) rfl (fun ls hl => ?_)
  refine lv_iload_n hx hb dX12_parent_17 rfl (lv_at hl 0 rfl) ?_
  refine lv_iconst (v := (-1)) hx hb dX12_parent_18 (by decide) ?_
  refine lv_icmp_ne (tgt := 32) hx hb dX12_parent_19 (by decide) (fun c3 => ?_) (fun c3 => ?_)
  · have h := x_f h c3
    refine lv_iload_n hx hb dX12_parent_32 rfl (lv_at hl 0 rfl) ?_
    have h := Option.some.inj h
    subst h
    refine W.widen (k := 2) (n := 12) (Nat.le_of_ble_eq_true rfl) (Nat.le_of_ble_eq_true rfl) ?_
    exact vIret hx hb hr9 hlocks hP hK hD hS dX12_parent_33
  · have h := x_t h c3
    have h := Option.some.inj h
    subst h
    exact vThrowN (n := 28) (text := "the account has no parent") (is := 184) hx hb hl9 hown hts hN hV (by decide +kernel) hK hP hD hS (hl.1.trans hml.symm) dX12_parent_22 dX12_parent_25 (Or.inl ⟨rfl, dX12_parent_26⟩) dX12_parent_28 dX12_parent_31 htab (by rw [← erm]; rfl) hlocks (Nat.le_of_ble_eq_true rfl) (Nat.le_of_ble_eq_true rfl)
def fX12_debits (N : Nat) (a1 : Int32) (s0 : ThlS) : Option (Nat × Int64) :=
  xcall (fX12_checkAccount N a1 s0) fun q1 =>
  xthr q1 (some (q1, 0)) <|
  xcall (fX1_debitsAt N a1 s0.1.1) fun q2 =>
  some (0, q2)
set_option maxRecDepth 100000 in
set_option maxHeartbeats 4000000 in
theorem kX12_debits (l : Launch) (hl9 : l.stackTraces = false) (D : va_G) (cA : Nat → ClassId) (ad : Nat → Nat) (hr : Nat → Nat → Nat) (h0 : Nat → Nat) (sz N : Nat) (a1 : Int32) (s0 : ThlS) (q : Nat × Int64) (h : fX12_debits N a1 s0 = some q) : vM l yX12_debits cX12_debits 2 (some .long) ({ frames := 7, cells := 1, slots := 6, locals := 111 }) D cA ad (ThlW cA ad hr h0 s0) sz [.ref (h0 0), .int a1] q.1 (some (.long q.2)) (ThlW cA ad hr h0 s0) 1 6 := by
  generalize erm : ({ frames := 7, cells := 1, slots := 6, locals := 111 } : Room) = rm
  refine vMet (by decide) (Nat.le_of_ble_eq_true rfl) ?_
  intro p e s m below meth c hx hb hr9 hlocks hml hts hown hin hK hP A eA hD hS hA hsz hN hE hV htab ls hl
  have hl : lv_has ls 2 [(0, .ref (h0 0)), (1, .int a1)] := hl
  clear eA
  rw [fX12_debits] at h
  refine lv_aload_n hx hb dX12_debits_0 rfl (lv_at hl 0 rfl) ?_
  refine lv_iload_n hx hb dX12_debits_1 rfl (lv_at hl 1 rfl) ?_
  obtain ⟨q1, c1, h⟩ := x_call h
  refine vCall (w2 := ThlW cA ad hr h0 s0) (vRunV (n := 1) (As := [.int a1]) (rest := []) ⟨hx, hb, hml, hown, hts⟩ (kX12_checkAccount l hl9 D cA ad hr h0 _ N a1 s0 q1 c1) qco_X12_checkAccount qml_X12_176 qin_X12_checkAccount qse_X12_checkAccount qini_X12 (by decide +kernel) (by rw [← erm]; rfl) hN hE hV hS hA hK hP hD [0, 1, 2, 3, 4, 5, 6, 7, 8, 9, 10, 11, 12, 13, 14, 15, 16, 17, 18, 19, 20, 21, 22, 23, 24, 25, 26, 27, 28, 29, 30, 31, 32, 33, 34, 35, 36, 37, 38, 39, 40, 41, 42, 43, 44, 45, 46, 47, 48, 49, 50, 51, 52, 53, 54, 55, 56, 57, 58, 59, 60] rfl rfl (q0 := 0) rfl rfl rfl rfl rfl hl.1 rfl (lv_room (Nat.le_of_ble_eq_true rfl)) dX12_debits_2 ⟨by rw [← erm]; exact Nat.le_of_ble_eq_true rfl, by rw [← erm]; exact Nat.le_of_ble_eq_true rfl⟩) hP hD hS hA [0, 1, 2, 3, 4, 5, 6, 7, 8, 9, 10, 11, 12, 13, 14, 15, 16, 17, 18, 19, 20, 21, 22, 23, 24, 25, 26, 27, 28, 29, 30, 31, 32, 33, 34, 35, 36, 37, 38, 39, 40, 41, 42, 43, 44, 45, 46, 47, 48, 49, 50, 51, 52, 53, 54, 55, 56, 57, 58, 59, 60] rfl rfl (xselH [some 0, some 1, some 2, some 3, some 4, some 5, some 6, some 7, some 8, some 9, some 10, some 11, some 12, some 13, some 14, some 15, some 16, some 17, some 18, some 19, some 20, some 21, some 22, some 23, some 24, some 25, some 26, some 27, some 28, some 29, some 30, some 31, some 32, some 33, some 34, some 35, some 36, some 37, some 38, some 39, some 40, some 41, some 42, some 43, some 44, some 45, some 46, some 47, some 48, some 49, some 50, some 51, some 52, some 53, some 54, some 55, some 56, some 57, some 58, some 59, some 60] rfl (by decide +kernel)) (fun x1 q9 ce H locs hP hD hS hc1 hc2 hc3 => ?_) (fun x1 H locs hP hD hS => ?_)
  · have h := x_th1 h x1
    have h := Option.some.inj h
    subst h
    exact vOut (x := q1) htab hlocks hK hP hD hS x1 hc1 hc2 hc3 (Nat.le_of_ble_eq_true rfl) (Nat.le_of_ble_eq_true rfl)
  have h := x_th0 h x1
  refine lv_aload_n hx hb dX12_debits_5 rfl (lv_at hl 0 rfl) ?_
  refine va_get (D := D) (ci := 11) (v := .ref (h0 1)) (C := RX12) (T := TX12) (N := 10) hx hb hts iX12 hown hK hP 0 rfl rfl 0 (by decide) (hts _ qfl_X12_10) (fun _ h9 => h9) rfl dX12_debits_6 ?_
  refine va_getN (D := D) (ci := 4) (v := .ref (h0 2)) (C := RX3) (T := TX3) (N := 7) hx hb hts iX3 hown hK hP 1 rfl rfl 0 (by decide) (hN.use qfn_X12_51) (fun _ h9 => h9) rfl dX12_debits_9 ?_
  refine lv_iload_n hx hb dX12_debits_12 rfl (lv_at hl 1 rfl) ?_
  obtain ⟨q2, c2, h⟩ := x_call h
  refine xCallH (w2 := ThlW cA ad hr h0 s0) (zRunV (n := 1) (As := [.int a1]) (rest := []) ⟨hx, hb, hml, hown, hts⟩ (kX1_debitsAt l D cA ad (fun k => h0 (k + 2)) _ N a1 s0.1.1 q2 c2) qco_X1_debitsAt qml_X12_189 qin_X1_debitsAt qse_X1_debitsAt qini_X1 (by decide +kernel) (by rw [← erm]; rfl) hN hE hS hA hK hP hD [2, 3, 4, 5, 6] rfl rfl (q0 := 0) rfl rfl rfl rfl rfl hl.1 rfl (lv_room (Nat.le_of_ble_eq_true rfl)) dX12_debits_13 ⟨by rw [← erm]; exact Nat.le_of_ble_eq_true rfl, by rw [← erm]; exact Nat.le_of_ble_eq_true rfl⟩) hP hD hS hA [2, 3, 4, 5, 6] rfl rfl (xselH [none, none, some 0, some 1, some 2, some 3, some 4, none, none, none, none, none, none, none, none, none, none, none, none, none, none, none, none, none, none, none, none, none, none, none, none, none, none, none, none, none, none, none, none, none, none, none, none, none, none, none, none, none, none, none, none, none, none, none, none, none, none, none, none, none, none] rfl (by decide +kernel)) (fun H locs hP hD hS => ?_)
  have h := Option.some.inj h
  subst h
  refine W.widen (k := 1) (n := 6) (Nat.le_of_ble_eq_true rfl) (Nat.le_of_ble_eq_true rfl) ?_
  exact vLret hx hb hr9 hlocks hP hK hD hS dX12_debits_16
def fX12_credits (N : Nat) (a1 : Int32) (s0 : ThlS) : Option (Nat × Int64) :=
  xcall (fX12_checkAccount N a1 s0) fun q1 =>
  xthr q1 (some (q1, 0)) <|
  xcall (fX1_creditsAt N a1 s0.1.1) fun q2 =>
  some (0, q2)
set_option maxRecDepth 100000 in
set_option maxHeartbeats 4000000 in
theorem kX12_credits (l : Launch) (hl9 : l.stackTraces = false) (D : va_G) (cA : Nat → ClassId) (ad : Nat → Nat) (hr : Nat → Nat → Nat) (h0 : Nat → Nat) (sz N : Nat) (a1 : Int32) (s0 : ThlS) (q : Nat × Int64) (h : fX12_credits N a1 s0 = some q) : vM l yX12_credits cX12_credits 2 (some .long) ({ frames := 7, cells := 1, slots := 6, locals := 111 }) D cA ad (ThlW cA ad hr h0 s0) sz [.ref (h0 0), .int a1] q.1 (some (.long q.2)) (ThlW cA ad hr h0 s0) 1 6 := by
  generalize erm : ({ frames := 7, cells := 1, slots := 6, locals := 111 } : Room) = rm
  refine vMet (by decide) (Nat.le_of_ble_eq_true rfl) ?_
  intro p e s m below meth c hx hb hr9 hlocks hml hts hown hin hK hP A eA hD hS hA hsz hN hE hV htab ls hl
  have hl : lv_has ls 2 [(0, .ref (h0 0)), (1, .int a1)] := hl
  clear eA
  rw [fX12_credits] at h
  refine lv_aload_n hx hb dX12_credits_0 rfl (lv_at hl 0 rfl) ?_
  refine lv_iload_n hx hb dX12_credits_1 rfl (lv_at hl 1 rfl) ?_
  obtain ⟨q1, c1, h⟩ := x_call h
  refine vCall (w2 := ThlW cA ad hr h0 s0) (vRunV (n := 1) (As := [.int a1]) (rest := []) ⟨hx, hb, hml, hown, hts⟩ (kX12_checkAccount l hl9 D cA ad hr h0 _ N a1 s0 q1 c1) qco_X12_checkAccount qml_X12_176 qin_X12_checkAccount qse_X12_checkAccount qini_X12 (by decide +kernel) (by rw [← erm]; rfl) hN hE hV hS hA hK hP hD [0, 1, 2, 3, 4, 5, 6, 7, 8, 9, 10, 11, 12, 13, 14, 15, 16, 17, 18, 19, 20, 21, 22, 23, 24, 25, 26, 27, 28, 29, 30, 31, 32, 33, 34, 35, 36, 37, 38, 39, 40, 41, 42, 43, 44, 45, 46, 47, 48, 49, 50, 51, 52, 53, 54, 55, 56, 57, 58, 59, 60] rfl rfl (q0 := 0) rfl rfl rfl rfl rfl hl.1 rfl (lv_room (Nat.le_of_ble_eq_true rfl)) dX12_credits_2 ⟨by rw [← erm]; exact Nat.le_of_ble_eq_true rfl, by rw [← erm]; exact Nat.le_of_ble_eq_true rfl⟩) hP hD hS hA [0, 1, 2, 3, 4, 5, 6, 7, 8, 9, 10, 11, 12, 13, 14, 15, 16, 17, 18, 19, 20, 21, 22, 23, 24, 25, 26, 27, 28, 29, 30, 31, 32, 33, 34, 35, 36, 37, 38, 39, 40, 41, 42, 43, 44, 45, 46, 47, 48, 49, 50, 51, 52, 53, 54, 55, 56, 57, 58, 59, 60] rfl rfl (xselH [some 0, some 1, some 2, some 3, some 4, some 5, some 6, some 7, some 8, some 9, some 10, some 11, some 12, some 13, some 14, some 15, some 16, some 17, some 18, some 19, some 20, some 21, some 22, some 23, some 24, some 25, some 26, some 27, some 28, some 29, some 30, some 31, some 32, some 33, some 34, some 35, some 36, some 37, some 38, some 39, some 40, some 41, some 42, some 43, some 44, some 45, some 46, some 47, some 48, some 49, some 50, some 51, some 52, some 53, some 54, some 55, some 56, some 57, some 58, some 59, some 60] rfl (by decide +kernel)) (fun x1 q9 ce H locs hP hD hS hc1 hc2 hc3 => ?_) (fun x1 H locs hP hD hS => ?_)
  · have h := x_th1 h x1
    have h := Option.some.inj h
    subst h
    exact vOut (x := q1) htab hlocks hK hP hD hS x1 hc1 hc2 hc3 (Nat.le_of_ble_eq_true rfl) (Nat.le_of_ble_eq_true rfl)
  have h := x_th0 h x1
  refine lv_aload_n hx hb dX12_credits_5 rfl (lv_at hl 0 rfl) ?_
  refine va_get (D := D) (ci := 11) (v := .ref (h0 1)) (C := RX12) (T := TX12) (N := 10) hx hb hts iX12 hown hK hP 0 rfl rfl 0 (by decide) (hts _ qfl_X12_10) (fun _ h9 => h9) rfl dX12_credits_6 ?_
  refine va_getN (D := D) (ci := 4) (v := .ref (h0 2)) (C := RX3) (T := TX3) (N := 7) hx hb hts iX3 hown hK hP 1 rfl rfl 0 (by decide) (hN.use qfn_X12_51) (fun _ h9 => h9) rfl dX12_credits_9 ?_
  refine lv_iload_n hx hb dX12_credits_12 rfl (lv_at hl 1 rfl) ?_
  obtain ⟨q2, c2, h⟩ := x_call h
  refine xCallH (w2 := ThlW cA ad hr h0 s0) (zRunV (n := 1) (As := [.int a1]) (rest := []) ⟨hx, hb, hml, hown, hts⟩ (kX1_creditsAt l D cA ad (fun k => h0 (k + 2)) _ N a1 s0.1.1 q2 c2) qco_X1_creditsAt qml_X12_193 qin_X1_creditsAt qse_X1_creditsAt qini_X1 (by decide +kernel) (by rw [← erm]; rfl) hN hE hS hA hK hP hD [2, 3, 4, 5, 6] rfl rfl (q0 := 0) rfl rfl rfl rfl rfl hl.1 rfl (lv_room (Nat.le_of_ble_eq_true rfl)) dX12_credits_13 ⟨by rw [← erm]; exact Nat.le_of_ble_eq_true rfl, by rw [← erm]; exact Nat.le_of_ble_eq_true rfl⟩) hP hD hS hA [2, 3, 4, 5, 6] rfl rfl (xselH [none, none, some 0, some 1, some 2, some 3, some 4, none, none, none, none, none, none, none, none, none, none, none, none, none, none, none, none, none, none, none, none, none, none, none, none, none, none, none, none, none, none, none, none, none, none, none, none, none, none, none, none, none, none, none, none, none, none, none, none, none, none, none, none, none, none] rfl (by decide +kernel)) (fun H locs hP hD hS => ?_)
  have h := Option.some.inj h
  subst h
  refine W.widen (k := 1) (n := 6) (Nat.le_of_ble_eq_true rfl) (Nat.le_of_ble_eq_true rfl) ?_
  exact vLret hx hb hr9 hlocks hP hK hD hS dX12_credits_16
def fX12_balance (N : Nat) (a1 : Int32) (s0 : ThlS) : Option (Nat × Int64) :=
  xcall (fX12_checkAccount N a1 s0) fun q1 =>
  xthr q1 (some (q1, 0)) <|
  xcall (fX1_balanceAt N a1 s0.1.1) fun q2 =>
  some (0, q2)
set_option maxRecDepth 100000 in
set_option maxHeartbeats 4000000 in
theorem kX12_balance (l : Launch) (hl9 : l.stackTraces = false) (D : va_G) (cA : Nat → ClassId) (ad : Nat → Nat) (hr : Nat → Nat → Nat) (h0 : Nat → Nat) (sz N : Nat) (a1 : Int32) (s0 : ThlS) (q : Nat × Int64) (h : fX12_balance N a1 s0 = some q) : vM l yX12_balance cX12_balance 2 (some .long) ({ frames := 7, cells := 1, slots := 6, locals := 111 }) D cA ad (ThlW cA ad hr h0 s0) sz [.ref (h0 0), .int a1] q.1 (some (.long q.2)) (ThlW cA ad hr h0 s0) 1 6 := by
  generalize erm : ({ frames := 7, cells := 1, slots := 6, locals := 111 } : Room) = rm
  refine vMet (by decide) (Nat.le_of_ble_eq_true rfl) ?_
  intro p e s m below meth c hx hb hr9 hlocks hml hts hown hin hK hP A eA hD hS hA hsz hN hE hV htab ls hl
  have hl : lv_has ls 2 [(0, .ref (h0 0)), (1, .int a1)] := hl
  clear eA
  rw [fX12_balance] at h
  refine lv_aload_n hx hb dX12_balance_0 rfl (lv_at hl 0 rfl) ?_
  refine lv_iload_n hx hb dX12_balance_1 rfl (lv_at hl 1 rfl) ?_
  obtain ⟨q1, c1, h⟩ := x_call h
  refine vCall (w2 := ThlW cA ad hr h0 s0) (vRunV (n := 1) (As := [.int a1]) (rest := []) ⟨hx, hb, hml, hown, hts⟩ (kX12_checkAccount l hl9 D cA ad hr h0 _ N a1 s0 q1 c1) qco_X12_checkAccount qml_X12_176 qin_X12_checkAccount qse_X12_checkAccount qini_X12 (by decide +kernel) (by rw [← erm]; rfl) hN hE hV hS hA hK hP hD [0, 1, 2, 3, 4, 5, 6, 7, 8, 9, 10, 11, 12, 13, 14, 15, 16, 17, 18, 19, 20, 21, 22, 23, 24, 25, 26, 27, 28, 29, 30, 31, 32, 33, 34, 35, 36, 37, 38, 39, 40, 41, 42, 43, 44, 45, 46, 47, 48, 49, 50, 51, 52, 53, 54, 55, 56, 57, 58, 59, 60] rfl rfl (q0 := 0) rfl rfl rfl rfl rfl hl.1 rfl (lv_room (Nat.le_of_ble_eq_true rfl)) dX12_balance_2 ⟨by rw [← erm]; exact Nat.le_of_ble_eq_true rfl, by rw [← erm]; exact Nat.le_of_ble_eq_true rfl⟩) hP hD hS hA [0, 1, 2, 3, 4, 5, 6, 7, 8, 9, 10, 11, 12, 13, 14, 15, 16, 17, 18, 19, 20, 21, 22, 23, 24, 25, 26, 27, 28, 29, 30, 31, 32, 33, 34, 35, 36, 37, 38, 39, 40, 41, 42, 43, 44, 45, 46, 47, 48, 49, 50, 51, 52, 53, 54, 55, 56, 57, 58, 59, 60] rfl rfl (xselH [some 0, some 1, some 2, some 3, some 4, some 5, some 6, some 7, some 8, some 9, some 10, some 11, some 12, some 13, some 14, some 15, some 16, some 17, some 18, some 19, some 20, some 21, some 22, some 23, some 24, some 25, some 26, some 27, some 28, some 29, some 30, some 31, some 32, some 33, some 34, some 35, some 36, some 37, some 38, some 39, some 40, some 41, some 42, some 43, some 44, some 45, some 46, some 47, some 48, some 49, some 50, some 51, some 52, some 53, some 54, some 55, some 56, some 57, some 58, some 59, some 60] rfl (by decide +kernel)) (fun x1 q9 ce H locs hP hD hS hc1 hc2 hc3 => ?_) (fun x1 H locs hP hD hS => ?_)
  · have h := x_th1 h x1
    have h := Option.some.inj h
    subst h
    exact vOut (x := q1) htab hlocks hK hP hD hS x1 hc1 hc2 hc3 (Nat.le_of_ble_eq_true rfl) (Nat.le_of_ble_eq_true rfl)
  have h := x_th0 h x1
  refine lv_aload_n hx hb dX12_balance_5 rfl (lv_at hl 0 rfl) ?_
  refine va_get (D := D) (ci := 11) (v := .ref (h0 1)) (C := RX12) (T := TX12) (N := 10) hx hb hts iX12 hown hK hP 0 rfl rfl 0 (by decide) (hts _ qfl_X12_10) (fun _ h9 => h9) rfl dX12_balance_6 ?_
  refine va_getN (D := D) (ci := 4) (v := .ref (h0 2)) (C := RX3) (T := TX3) (N := 7) hx hb hts iX3 hown hK hP 1 rfl rfl 0 (by decide) (hN.use qfn_X12_51) (fun _ h9 => h9) rfl dX12_balance_9 ?_
  refine lv_iload_n hx hb dX12_balance_12 rfl (lv_at hl 1 rfl) ?_
  obtain ⟨q2, c2, h⟩ := x_call h
  refine xCallH (w2 := ThlW cA ad hr h0 s0) (zRunV (n := 1) (As := [.int a1]) (rest := []) ⟨hx, hb, hml, hown, hts⟩ (kX1_balanceAt l D cA ad (fun k => h0 (k + 2)) _ N a1 s0.1.1 q2 c2) qco_X1_balanceAt qml_X12_196 qin_X1_balanceAt qse_X1_balanceAt qini_X1 (by decide +kernel) (by rw [← erm]; rfl) hN hE hS hA hK hP hD [2, 3, 4, 5, 6] rfl rfl (q0 := 0) rfl rfl rfl rfl rfl hl.1 rfl (lv_room (Nat.le_of_ble_eq_true rfl)) dX12_balance_13 ⟨by rw [← erm]; exact Nat.le_of_ble_eq_true rfl, by rw [← erm]; exact Nat.le_of_ble_eq_true rfl⟩) hP hD hS hA [2, 3, 4, 5, 6] rfl rfl (xselH [none, none, some 0, some 1, some 2, some 3, some 4, none, none, none, none, none, none, none, none, none, none, none, none, none, none, none, none, none, none, none, none, none, none, none, none, none, none, none, none, none, none, none, none, none, none, none, none, none, none, none, none, none, none, none, none, none, none, none, none, none, none, none, none, none, none] rfl (by decide +kernel)) (fun H locs hP hD hS => ?_)
  have h := Option.some.inj h
  subst h
  refine W.widen (k := 1) (n := 6) (Nat.le_of_ble_eq_true rfl) (Nat.le_of_ble_eq_true rfl) ?_
  exact vLret hx hb hr9 hlocks hP hK hD hS dX12_balance_16
def fX12_treeBalance (N : Nat) (a1 : Int32) (s0 : ThlS) : Option (Nat × Int64) :=
  xcall (fX12_checkAccount N a1 s0) fun q1 =>
  xthr q1 (some (q1, 0)) <|
  xcall (fX1_sumOfTree N a1 s0.1.1) fun q2 =>
  some (0, q2)
set_option maxRecDepth 100000 in
set_option maxHeartbeats 4000000 in
theorem kX12_treeBalance (l : Launch) (hl9 : l.stackTraces = false) (D : va_G) (cA : Nat → ClassId) (ad : Nat → Nat) (hr : Nat → Nat → Nat) (h0 : Nat → Nat) (sz N : Nat) (a1 : Int32) (s0 : ThlS) (q : Nat × Int64) (h : fX12_treeBalance N a1 s0 = some q) : vM l yX12_treeBalance cX12_treeBalance 2 (some .long) ({ frames := 7, cells := 1, slots := 6, locals := 111 }) D cA ad (ThlW cA ad hr h0 s0) sz [.ref (h0 0), .int a1] q.1 (some (.long q.2)) (ThlW cA ad hr h0 s0) 1 6 := by
  generalize erm : ({ frames := 7, cells := 1, slots := 6, locals := 111 } : Room) = rm
  refine vMet (by decide) (Nat.le_of_ble_eq_true rfl) ?_
  intro p e s m below meth c hx hb hr9 hlocks hml hts hown hin hK hP A eA hD hS hA hsz hN hE hV htab ls hl
  have hl : lv_has ls 2 [(0, .ref (h0 0)), (1, .int a1)] := hl
  clear eA
  rw [fX12_treeBalance] at h
  refine lv_aload_n hx hb dX12_treeBalance_0 rfl (lv_at hl 0 rfl) ?_
  refine lv_iload_n hx hb dX12_treeBalance_1 rfl (lv_at hl 1 rfl) ?_
  obtain ⟨q1, c1, h⟩ := x_call h
  refine vCall (w2 := ThlW cA ad hr h0 s0) (vRunV (n := 1) (As := [.int a1]) (rest := []) ⟨hx, hb, hml, hown, hts⟩ (kX12_checkAccount l hl9 D cA ad hr h0 _ N a1 s0 q1 c1) qco_X12_checkAccount qml_X12_176 qin_X12_checkAccount qse_X12_checkAccount qini_X12 (by decide +kernel) (by rw [← erm]; rfl) hN hE hV hS hA hK hP hD [0, 1, 2, 3, 4, 5, 6, 7, 8, 9, 10, 11, 12, 13, 14, 15, 16, 17, 18, 19, 20, 21, 22, 23, 24, 25, 26, 27, 28, 29, 30, 31, 32, 33, 34, 35, 36, 37, 38, 39, 40, 41, 42, 43, 44, 45, 46, 47, 48, 49, 50, 51, 52, 53, 54, 55, 56, 57, 58, 59, 60] rfl rfl (q0 := 0) rfl rfl rfl rfl rfl hl.1 rfl (lv_room (Nat.le_of_ble_eq_true rfl)) dX12_treeBalance_2 ⟨by rw [← erm]; exact Nat.le_of_ble_eq_true rfl, by rw [← erm]; exact Nat.le_of_ble_eq_true rfl⟩) hP hD hS hA [0, 1, 2, 3, 4, 5, 6, 7, 8, 9, 10, 11, 12, 13, 14, 15, 16, 17, 18, 19, 20, 21, 22, 23, 24, 25, 26, 27, 28, 29, 30, 31, 32, 33, 34, 35, 36, 37, 38, 39, 40, 41, 42, 43, 44, 45, 46, 47, 48, 49, 50, 51, 52, 53, 54, 55, 56, 57, 58, 59, 60] rfl rfl (xselH [some 0, some 1, some 2, some 3, some 4, some 5, some 6, some 7, some 8, some 9, some 10, some 11, some 12, some 13, some 14, some 15, some 16, some 17, some 18, some 19, some 20, some 21, some 22, some 23, some 24, some 25, some 26, some 27, some 28, some 29, some 30, some 31, some 32, some 33, some 34, some 35, some 36, some 37, some 38, some 39, some 40, some 41, some 42, some 43, some 44, some 45, some 46, some 47, some 48, some 49, some 50, some 51, some 52, some 53, some 54, some 55, some 56, some 57, some 58, some 59, some 60] rfl (by decide +kernel)) (fun x1 q9 ce H locs hP hD hS hc1 hc2 hc3 => ?_) (fun x1 H locs hP hD hS => ?_)
  · have h := x_th1 h x1
    have h := Option.some.inj h
    subst h
    exact vOut (x := q1) htab hlocks hK hP hD hS x1 hc1 hc2 hc3 (Nat.le_of_ble_eq_true rfl) (Nat.le_of_ble_eq_true rfl)
  have h := x_th0 h x1
  refine lv_aload_n hx hb dX12_treeBalance_5 rfl (lv_at hl 0 rfl) ?_
  refine va_get (D := D) (ci := 11) (v := .ref (h0 1)) (C := RX12) (T := TX12) (N := 10) hx hb hts iX12 hown hK hP 0 rfl rfl 0 (by decide) (hts _ qfl_X12_10) (fun _ h9 => h9) rfl dX12_treeBalance_6 ?_
  refine va_getN (D := D) (ci := 4) (v := .ref (h0 2)) (C := RX3) (T := TX3) (N := 7) hx hb hts iX3 hown hK hP 1 rfl rfl 0 (by decide) (hN.use qfn_X12_51) (fun _ h9 => h9) rfl dX12_treeBalance_9 ?_
  refine lv_iload_n hx hb dX12_treeBalance_12 rfl (lv_at hl 1 rfl) ?_
  obtain ⟨q2, c2, h⟩ := x_call h
  refine xCallH (w2 := ThlW cA ad hr h0 s0) (zRunV (n := 1) (As := [.int a1]) (rest := []) ⟨hx, hb, hml, hown, hts⟩ (kX1_sumOfTree l D cA ad (fun k => h0 (k + 2)) _ N a1 s0.1.1 q2 c2) qco_X1_sumOfTree qml_X12_199 qin_X1_sumOfTree qse_X1_sumOfTree qini_X1 (by decide +kernel) (by rw [← erm]; rfl) hN hE hS hA hK hP hD [2, 3, 4, 5, 6] rfl rfl (q0 := 0) rfl rfl rfl rfl rfl hl.1 rfl (lv_room (Nat.le_of_ble_eq_true rfl)) dX12_treeBalance_13 ⟨by rw [← erm]; exact Nat.le_of_ble_eq_true rfl, by rw [← erm]; exact Nat.le_of_ble_eq_true rfl⟩) hP hD hS hA [2, 3, 4, 5, 6] rfl rfl (xselH [none, none, some 0, some 1, some 2, some 3, some 4, none, none, none, none, none, none, none, none, none, none, none, none, none, none, none, none, none, none, none, none, none, none, none, none, none, none, none, none, none, none, none, none, none, none, none, none, none, none, none, none, none, none, none, none, none, none, none, none, none, none, none, none, none, none] rfl (by decide +kernel)) (fun H locs hP hD hS => ?_)
  have h := Option.some.inj h
  subst h
  refine W.widen (k := 1) (n := 6) (Nat.le_of_ble_eq_true rfl) (Nat.le_of_ble_eq_true rfl) ?_
  exact vLret hx hb hr9 hlocks hP hK hD hS dX12_treeBalance_16
def fX12_treeBalanceByParents (N : Nat) (a1 : Int32) (s0 : ThlS) : Option (Nat × Int64) :=
  xcall (fX12_checkAccount N a1 s0) fun q1 =>
  xthr q1 (some (q1, 0)) <|
  xcall (fX1_sumOfThoseBelow N a1 s0.1.1) fun q2 =>
  some (0, q2)
set_option maxRecDepth 100000 in
set_option maxHeartbeats 4000000 in
theorem kX12_treeBalanceByParents (l : Launch) (hl9 : l.stackTraces = false) (D : va_G) (cA : Nat → ClassId) (ad : Nat → Nat) (hr : Nat → Nat → Nat) (h0 : Nat → Nat) (sz N : Nat) (a1 : Int32) (s0 : ThlS) (q : Nat × Int64) (h : fX12_treeBalanceByParents N a1 s0 = some q) : vM l yX12_treeBalanceByParents cX12_treeBalanceByParents 2 (some .long) ({ frames := 7, cells := 1, slots := 6, locals := 111 }) D cA ad (ThlW cA ad hr h0 s0) sz [.ref (h0 0), .int a1] q.1 (some (.long q.2)) (ThlW cA ad hr h0 s0) 1 6 := by
  generalize erm : ({ frames := 7, cells := 1, slots := 6, locals := 111 } : Room) = rm
  refine vMet (by decide) (Nat.le_of_ble_eq_true rfl) ?_
  intro p e s m below meth c hx hb hr9 hlocks hml hts hown hin hK hP A eA hD hS hA hsz hN hE hV htab ls hl
  have hl : lv_has ls 2 [(0, .ref (h0 0)), (1, .int a1)] := hl
  clear eA
  rw [fX12_treeBalanceByParents] at h
  refine lv_aload_n hx hb dX12_treeBalanceByParents_0 rfl (lv_at hl 0 rfl) ?_
  refine lv_iload_n hx hb dX12_treeBalanceByParents_1 rfl (lv_at hl 1 rfl) ?_
  obtain ⟨q1, c1, h⟩ := x_call h
  refine vCall (w2 := ThlW cA ad hr h0 s0) (vRunV (n := 1) (As := [.int a1]) (rest := []) ⟨hx, hb, hml, hown, hts⟩ (kX12_checkAccount l hl9 D cA ad hr h0 _ N a1 s0 q1 c1) qco_X12_checkAccount qml_X12_176 qin_X12_checkAccount qse_X12_checkAccount qini_X12 (by decide +kernel) (by rw [← erm]; rfl) hN hE hV hS hA hK hP hD [0, 1, 2, 3, 4, 5, 6, 7, 8, 9, 10, 11, 12, 13, 14, 15, 16, 17, 18, 19, 20, 21, 22, 23, 24, 25, 26, 27, 28, 29, 30, 31, 32, 33, 34, 35, 36, 37, 38, 39, 40, 41, 42, 43, 44, 45, 46, 47, 48, 49, 50, 51, 52, 53, 54, 55, 56, 57, 58, 59, 60] rfl rfl (q0 := 0) rfl rfl rfl rfl rfl hl.1 rfl (lv_room (Nat.le_of_ble_eq_true rfl)) dX12_treeBalanceByParents_2 ⟨by rw [← erm]; exact Nat.le_of_ble_eq_true rfl, by rw [← erm]; exact Nat.le_of_ble_eq_true rfl⟩) hP hD hS hA [0, 1, 2, 3, 4, 5, 6, 7, 8, 9, 10, 11, 12, 13, 14, 15, 16, 17, 18, 19, 20, 21, 22, 23, 24, 25, 26, 27, 28, 29, 30, 31, 32, 33, 34, 35, 36, 37, 38, 39, 40, 41, 42, 43, 44, 45, 46, 47, 48, 49, 50, 51, 52, 53, 54, 55, 56, 57, 58, 59, 60] rfl rfl (xselH [some 0, some 1, some 2, some 3, some 4, some 5, some 6, some 7, some 8, some 9, some 10, some 11, some 12, some 13, some 14, some 15, some 16, some 17, some 18, some 19, some 20, some 21, some 22, some 23, some 24, some 25, some 26, some 27, some 28, some 29, some 30, some 31, some 32, some 33, some 34, some 35, some 36, some 37, some 38, some 39, some 40, some 41, some 42, some 43, some 44, some 45, some 46, some 47, some 48, some 49, some 50, some 51, some 52, some 53, some 54, some 55, some 56, some 57, some 58, some 59, some 60] rfl (by decide +kernel)) (fun x1 q9 ce H locs hP hD hS hc1 hc2 hc3 => ?_) (fun x1 H locs hP hD hS => ?_)
  · have h := x_th1 h x1
    have h := Option.some.inj h
    subst h
    exact vOut (x := q1) htab hlocks hK hP hD hS x1 hc1 hc2 hc3 (Nat.le_of_ble_eq_true rfl) (Nat.le_of_ble_eq_true rfl)
  have h := x_th0 h x1
  refine lv_aload_n hx hb dX12_treeBalanceByParents_5 rfl (lv_at hl 0 rfl) ?_
  refine va_get (D := D) (ci := 11) (v := .ref (h0 1)) (C := RX12) (T := TX12) (N := 10) hx hb hts iX12 hown hK hP 0 rfl rfl 0 (by decide) (hts _ qfl_X12_10) (fun _ h9 => h9) rfl dX12_treeBalanceByParents_6 ?_
  refine va_getN (D := D) (ci := 4) (v := .ref (h0 2)) (C := RX3) (T := TX3) (N := 7) hx hb hts iX3 hown hK hP 1 rfl rfl 0 (by decide) (hN.use qfn_X12_51) (fun _ h9 => h9) rfl dX12_treeBalanceByParents_9 ?_
  refine lv_iload_n hx hb dX12_treeBalanceByParents_12 rfl (lv_at hl 1 rfl) ?_
  obtain ⟨q2, c2, h⟩ := x_call h
  refine xCallH (w2 := ThlW cA ad hr h0 s0) (zRunV (n := 1) (As := [.int a1]) (rest := []) ⟨hx, hb, hml, hown, hts⟩ (kX1_sumOfThoseBelow l D cA ad (fun k => h0 (k + 2)) _ N a1 s0.1.1 q2 c2) qco_X1_sumOfThoseBelow qml_X12_202 qin_X1_sumOfThoseBelow qse_X1_sumOfThoseBelow qini_X1 (by decide +kernel) (by rw [← erm]; rfl) hN hE hS hA hK hP hD [2, 3, 4, 5, 6] rfl rfl (q0 := 0) rfl rfl rfl rfl rfl hl.1 rfl (lv_room (Nat.le_of_ble_eq_true rfl)) dX12_treeBalanceByParents_13 ⟨by rw [← erm]; exact Nat.le_of_ble_eq_true rfl, by rw [← erm]; exact Nat.le_of_ble_eq_true rfl⟩) hP hD hS hA [2, 3, 4, 5, 6] rfl rfl (xselH [none, none, some 0, some 1, some 2, some 3, some 4, none, none, none, none, none, none, none, none, none, none, none, none, none, none, none, none, none, none, none, none, none, none, none, none, none, none, none, none, none, none, none, none, none, none, none, none, none, none, none, none, none, none, none, none, none, none, none, none, none, none, none, none, none, none] rfl (by decide +kernel)) (fun H locs hP hD hS => ?_)
  have h := Option.some.inj h
  subst h
  refine W.widen (k := 1) (n := 6) (Nat.le_of_ble_eq_true rfl) (Nat.le_of_ble_eq_true rfl) ?_
  exact vLret hx hb hr9 hlocks hP hK hD hS dX12_treeBalanceByParents_16
def fX12_treeSize (N : Nat) (a1 : Int32) (s0 : ThlS) : Option (Nat × Int32) :=
  xcall (fX12_checkAccount N a1 s0) fun q1 =>
  xthr q1 (some (q1, 0)) <|
  xcall (fX1_sizeOfTree N a1 s0.1.1) fun q2 =>
  some (0, q2)
set_option maxRecDepth 100000 in
set_option maxHeartbeats 4000000 in
theorem kX12_treeSize (l : Launch) (hl9 : l.stackTraces = false) (D : va_G) (cA : Nat → ClassId) (ad : Nat → Nat) (hr : Nat → Nat → Nat) (h0 : Nat → Nat) (sz N : Nat) (a1 : Int32) (s0 : ThlS) (q : Nat × Int32) (h : fX12_treeSize N a1 s0 = some q) : vM l yX12_treeSize cX12_treeSize 2 (some .int) ({ frames := 7, cells := 1, slots := 6, locals := 111 }) D cA ad (ThlW cA ad hr h0 s0) sz [.ref (h0 0), .int a1] q.1 (some (.int q.2)) (ThlW cA ad hr h0 s0) 1 6 := by
  generalize erm : ({ frames := 7, cells := 1, slots := 6, locals := 111 } : Room) = rm
  refine vMet (by decide) (Nat.le_of_ble_eq_true rfl) ?_
  intro p e s m below meth c hx hb hr9 hlocks hml hts hown hin hK hP A eA hD hS hA hsz hN hE hV htab ls hl
  have hl : lv_has ls 2 [(0, .ref (h0 0)), (1, .int a1)] := hl
  clear eA
  rw [fX12_treeSize] at h
  refine lv_aload_n hx hb dX12_treeSize_0 rfl (lv_at hl 0 rfl) ?_
  refine lv_iload_n hx hb dX12_treeSize_1 rfl (lv_at hl 1 rfl) ?_
  obtain ⟨q1, c1, h⟩ := x_call h
  refine vCall (w2 := ThlW cA ad hr h0 s0) (vRunV (n := 1) (As := [.int a1]) (rest := []) ⟨hx, hb, hml, hown, hts⟩ (kX12_checkAccount l hl9 D cA ad hr h0 _ N a1 s0 q1 c1) qco_X12_checkAccount qml_X12_176 qin_X12_checkAccount qse_X12_checkAccount qini_X12 (by decide +kernel) (by rw [← erm]; rfl) hN hE hV hS hA hK hP hD [0, 1, 2, 3, 4, 5, 6, 7, 8, 9, 10, 11, 12, 13, 14, 15, 16, 17, 18, 19, 20, 21, 22, 23, 24, 25, 26, 27, 28, 29, 30, 31, 32, 33, 34, 35, 36, 37, 38, 39, 40, 41, 42, 43, 44, 45, 46, 47, 48, 49, 50, 51, 52, 53, 54, 55, 56, 57, 58, 59, 60] rfl rfl (q0 := 0) rfl rfl rfl rfl rfl hl.1 rfl (lv_room (Nat.le_of_ble_eq_true rfl)) dX12_treeSize_2 ⟨by rw [← erm]; exact Nat.le_of_ble_eq_true rfl, by rw [← erm]; exact Nat.le_of_ble_eq_true rfl⟩) hP hD hS hA [0, 1, 2, 3, 4, 5, 6, 7, 8, 9, 10, 11, 12, 13, 14, 15, 16, 17, 18, 19, 20, 21, 22, 23, 24, 25, 26, 27, 28, 29, 30, 31, 32, 33, 34, 35, 36, 37, 38, 39, 40, 41, 42, 43, 44, 45, 46, 47, 48, 49, 50, 51, 52, 53, 54, 55, 56, 57, 58, 59, 60] rfl rfl (xselH [some 0, some 1, some 2, some 3, some 4, some 5, some 6, some 7, some 8, some 9, some 10, some 11, some 12, some 13, some 14, some 15, some 16, some 17, some 18, some 19, some 20, some 21, some 22, some 23, some 24, some 25, some 26, some 27, some 28, some 29, some 30, some 31, some 32, some 33, some 34, some 35, some 36, some 37, some 38, some 39, some 40, some 41, some 42, some 43, some 44, some 45, some 46, some 47, some 48, some 49, some 50, some 51, some 52, some 53, some 54, some 55, some 56, some 57, some 58, some 59, some 60] rfl (by decide +kernel)) (fun x1 q9 ce H locs hP hD hS hc1 hc2 hc3 => ?_) (fun x1 H locs hP hD hS => ?_)
  · have h := x_th1 h x1
    have h := Option.some.inj h
    subst h
    exact vOut (x := q1) htab hlocks hK hP hD hS x1 hc1 hc2 hc3 (Nat.le_of_ble_eq_true rfl) (Nat.le_of_ble_eq_true rfl)
  have h := x_th0 h x1
  refine lv_aload_n hx hb dX12_treeSize_5 rfl (lv_at hl 0 rfl) ?_
  refine va_get (D := D) (ci := 11) (v := .ref (h0 1)) (C := RX12) (T := TX12) (N := 10) hx hb hts iX12 hown hK hP 0 rfl rfl 0 (by decide) (hts _ qfl_X12_10) (fun _ h9 => h9) rfl dX12_treeSize_6 ?_
  refine va_getN (D := D) (ci := 4) (v := .ref (h0 2)) (C := RX3) (T := TX3) (N := 7) hx hb hts iX3 hown hK hP 1 rfl rfl 0 (by decide) (hN.use qfn_X12_51) (fun _ h9 => h9) rfl dX12_treeSize_9 ?_
  refine lv_iload_n hx hb dX12_treeSize_12 rfl (lv_at hl 1 rfl) ?_
  obtain ⟨q2, c2, h⟩ := x_call h
  refine xCallH (w2 := ThlW cA ad hr h0 s0) (zRunV (n := 1) (As := [.int a1]) (rest := []) ⟨hx, hb, hml, hown, hts⟩ (kX1_sizeOfTree l D cA ad (fun k => h0 (k + 2)) _ N a1 s0.1.1 q2 c2) qco_X1_sizeOfTree qml_X12_205 qin_X1_sizeOfTree qse_X1_sizeOfTree qini_X1 (by decide +kernel) (by rw [← erm]; rfl) hN hE hS hA hK hP hD [2, 3, 4, 5, 6] rfl rfl (q0 := 0) rfl rfl rfl rfl rfl hl.1 rfl (lv_room (Nat.le_of_ble_eq_true rfl)) dX12_treeSize_13 ⟨by rw [← erm]; exact Nat.le_of_ble_eq_true rfl, by rw [← erm]; exact Nat.le_of_ble_eq_true rfl⟩) hP hD hS hA [2, 3, 4, 5, 6] rfl rfl (xselH [none, none, some 0, some 1, some 2, some 3, some 4, none, none, none, none, none, none, none, none, none, none, none, none, none, none, none, none, none, none, none, none, none, none, none, none, none, none, none, none, none, none, none, none, none, none, none, none, none, none, none, none, none, none, none, none, none, none, none, none, none, none, none, none, none, none] rfl (by decide +kernel)) (fun H locs hP hD hS => ?_)
  have h := Option.some.inj h
  subst h
  refine W.widen (k := 1) (n := 6) (Nat.le_of_ble_eq_true rfl) (Nat.le_of_ble_eq_true rfl) ?_
  exact vIret hx hb hr9 hlocks hP hK hD hS dX12_treeSize_16
def fX12_accountByBalance (N : Nat) (a1 : Int32) (s0 : ThlS) : Option (Nat × Int32) :=
  xcall (fX12_isWithin N a1 0 (s0.1.1.2.2.2.2 - 1)) fun q1 =>
  if q1 = 0 then
    some (2, 0)
  else
    xcall (fX1_accountAtRank N a1 s0.1.1) fun q3 =>
    some (0, q3)
set_option maxRecDepth 100000 in
set_option maxHeartbeats 4000000 in
theorem kX12_accountByBalance (l : Launch) (hl9 : l.stackTraces = false) (D : va_G) (cA : Nat → ClassId) (ad : Nat → Nat) (hr : Nat → Nat → Nat) (h0 : Nat → Nat) (sz N : Nat) (a1 : Int32) (s0 : ThlS) (q : Nat × Int32) (h : fX12_accountByBalance N a1 s0 = some q) : vM l yX12_accountByBalance cX12_accountByBalance 2 (some .int) ({ frames := 6, cells := 1, slots := 6, locals := 90 }) D cA ad (ThlW cA ad hr h0 s0) sz [.ref (h0 0), .int a1] q.1 (some (.int q.2)) (ThlW cA ad hr h0 s0) 1 6 := by
  generalize erm : ({ frames := 6, cells := 1, slots := 6, locals := 90 } : Room) = rm
  refine vMet (by decide) (Nat.le_of_ble_eq_true rfl) ?_
  intro p e s m below meth c hx hb hr9 hlocks hml hts hown hin hK hP A eA hD hS hA hsz hN hE hV htab ls hl
  have hl : lv_has ls 2 [(0, .ref (h0 0)), (1, .int a1)] := hl
  clear eA
  rw [fX12_accountByBalance] at h
  refine lv_iload_n hx hb dX12_accountByBalance_0 rfl (lv_at hl 1 rfl) ?_
  refine lv_iconst (v := 0) hx hb dX12_accountByBalance_1 (by decide) ?_
  refine lv_aload_n hx hb dX12_accountByBalance_2 rfl (lv_at hl 0 rfl) ?_
  refine va_get (D := D) (ci := 11) (v := .ref (h0 1)) (C := RX12) (T := TX12) (N := 10) hx hb hts iX12 hown hK hP 0 rfl rfl 0 (by decide) (hts _ qfl_X12_10) (fun _ h9 => h9) rfl dX12_accountByBalance_3 ?_
  refine va_getN (D := D) (ci := 4) (v := .ref (h0 2)) (C := RX3) (T := TX3) (N := 7) hx hb hts iX3 hown hK hP 1 rfl rfl 0 (by decide) (hN.use qfn_X12_51) (fun _ h9 => h9) rfl dX12_accountByBalance_6 ?_
  refine va_getN (D := D) (ci := 2) (v := .int s0.1.1.2.2.2.2) (C := RX1) (T := TX1) (N := 5) hx hb hts iX1 hown hK hP 2 rfl rfl 4 (by decide) (hN.use qfn_X12_173) (fun _ h9 => h9) rfl dX12_accountByBalance_9 ?_
  refine lv_iconst (v := 1) hx hb dX12_accountByBalance_12 (by decide) ?_
  refine lv_isub hx hb dX12_accountByBalance_13 ?_
  obtain ⟨q1, c1, h⟩ := x_call h
  refine xCallH (w2 := ThlW cA ad hr h0 s0) (xRunS (n := 3) (As := [.int a1, .int 0, .int (s0.1.1.2.2.2.2 - 1)]) (rest := []) ⟨hx, hb, hml, hown, hts⟩ (kX12_isWithin l D cA  _ N a1 0 (s0.1.1.2.2.2.2 - 1) q1 c1) qco_X12_isWithin qml_X12_217 qst_X12_isWithin qini_X12 (by decide +kernel) (by rw [← erm]; rfl) hK hP hD [] rfl rfl rfl rfl hl.1 rfl (lv_room (Nat.le_of_ble_eq_true rfl)) dX12_accountByBalance_14 ⟨Nat.zero_le _, Nat.zero_le _⟩) hP hD hS hA [] rfl rfl (xselH [none, none, none, none, none, none, none, none, none, none, none, none, none, none, none, none, none, none, none, none, none, none, none, none, none, none, none, none, none, none, none, none, none, none, none, none, none, none, none, none, none, none, none, none, none, none, none, none, none, none, none, none, none, none, none, none, none, none, none, none, none] rfl (by decide +kernel)) (fun H locs hP hD hS => ?_)
  refine lv_if_ne (tgt := 30) hx hb dX12_accountByBalance_17 (by decide) (fun c2 => ?_) (fun c2 => ?_)
  · have h := x_f h c2
    refine lv_aload_n hx hb dX12_accountByBalance_30 rfl (lv_at hl 0 rfl) ?_
    refine va_get (D := D) (ci := 11) (v := .ref (h0 1)) (C := RX12) (T := TX12) (N := 10) hx hb hts iX12 hown hK hP 0 rfl rfl 0 (by decide) (hts _ qfl_X12_10) (fun _ h9 => h9) rfl dX12_accountByBalance_31 ?_
    refine va_getN (D := D) (ci := 4) (v := .ref (h0 2)) (C := RX3) (T := TX3) (N := 7) hx hb hts iX3 hown hK hP 1 rfl rfl 0 (by decide) (hN.use qfn_X12_51) (fun _ h9 => h9) rfl dX12_accountByBalance_34 ?_
    refine lv_iload_n hx hb dX12_accountByBalance_37 rfl (lv_at hl 1 rfl) ?_
    obtain ⟨q3, c3, h⟩ := x_call h
    refine xCallH (w2 := ThlW cA ad hr h0 s0) (zRunV (n := 1) (As := [.int a1]) (rest := []) ⟨hx, hb, hml, hown, hts⟩ (kX1_accountAtRank l D cA ad (fun k => h0 (k + 2)) _ N a1 s0.1.1 q3 c3) qco_X1_accountAtRank qml_X12_223 qin_X1_accountAtRank qse_X1_accountAtRank qini_X1 (by decide +kernel) (by rw [← erm]; rfl) hN hE hS hA hK hP hD [2, 3, 4, 5, 6] rfl rfl (q0 := 0) rfl rfl rfl rfl rfl hl.1 rfl (lv_room (Nat.le_of_ble_eq_true rfl)) dX12_accountByBalance_38 ⟨Nat.zero_le _, Nat.zero_le _⟩) hP hD hS hA [2, 3, 4, 5, 6] rfl rfl (xselH [none, none, some 0, some 1, some 2, some 3, some 4, none, none, none, none, none, none, none, none, none, none, none, none, none, none, none, none, none, none, none, none, none, none, none, none, none, none, none, none, none, none, none, none, none, none, none, none, none, none, none, none, none, none, none, none, none, none, none, none, none, none, none, none, none, none] rfl (by decide +kernel)) (fun H locs hP hD hS => ?_)
    have h := Option.some.inj h
    subst h
    refine W.widen (k := 1) (n := 6) (Nat.le_of_ble_eq_true rfl) (Nat.le_of_ble_eq_true rfl) ?_
    exact vIret hx hb hr9 hlocks hP hK hD hS dX12_accountByBalance_41
  · have h := x_t h c2
    have h := Option.some.inj h
    subst h
    exact vThrowN (n := 26) (text := "no such rank") (is := 221) hx hb hl9 hown hts hN hV (by decide +kernel) hK hP hD hS (hl.1.trans hml.symm) dX12_accountByBalance_20 dX12_accountByBalance_23 (Or.inl ⟨rfl, dX12_accountByBalance_24⟩) dX12_accountByBalance_26 dX12_accountByBalance_29 htab (by rw [← erm]; rfl) hlocks (Nat.le_of_ble_eq_true rfl) (Nat.le_of_ble_eq_true rfl)
def fX12_entryAt (N : Nat) (a1 : Int32) (s0 : ThlS) : Option (Nat × Int32) :=
  xcall (fX6_keptCount N s0.1.2.1) fun q1 =>
  xcall (fX12_isWithin N a1 0 (q1 - 1)) fun q2 =>
  if q2 = 0 then
    some (2, 0)
  else
    xcall (fX6_idAt N a1 s0.1.2.1) fun q4 =>
    some (0, q4)
set_option maxRecDepth 100000 in
set_option maxHeartbeats 4000000 in
theorem kX12_entryAt (l : Launch) (hl9 : l.stackTraces = false) (D : va_G) (cA : Nat → ClassId) (ad : Nat → Nat) (hr : Nat → Nat → Nat) (h0 : Nat → Nat) (sz N : Nat) (a1 : Int32) (s0 : ThlS) (q : Nat × Int32) (h : fX12_entryAt N a1 s0 = some q) : vM l yX12_entryAt cX12_entryAt 2 (some .int) ({ frames := 6, cells := 1, slots := 6, locals := 90 }) D cA ad (ThlW cA ad hr h0 s0) sz [.ref (h0 0), .int a1] q.1 (some (.int q.2)) (ThlW cA ad hr h0 s0) 1 6 := by
  generalize erm : ({ frames := 6, cells := 1, slots := 6, locals := 90 } : Room) = rm
  refine vMet (by decide) (Nat.le_of_ble_eq_true rfl) ?_
  intro p e s m below meth c hx hb hr9 hlocks hml hts hown hin hK hP A eA hD hS hA hsz hN hE hV htab ls hl
  have hl : lv_has ls 2 [(0, .ref (h0 0)), (1, .int a1)] := hl
  clear eA
  rw [fX12_entryAt] at h
  refine lv_iload_n hx hb dX12_entryAt_0 rfl (lv_at hl 1 rfl) ?_
  refine lv_iconst (v := 0) hx hb dX12_entryAt_1 (by decide) ?_
  refine lv_aload_n hx hb dX12_entryAt_2 rfl (lv_at hl 0 rfl) ?_
  refine va_get (D := D) (ci := 11) (v := .ref (h0 1)) (C := RX12) (T := TX12) (N := 10) hx hb hts iX12 hown hK hP 0 rfl rfl 0 (by decide) (hts _ qfl_X12_10) (fun _ h9 => h9) rfl dX12_entryAt_3 ?_
  refine va_getN (D := D) (ci := 4) (v := .ref (h0 7)) (C := RX3) (T := TX3) (N := 7) hx hb hts iX3 hown hK hP 1 rfl rfl 1 (by decide) (hN.use qfn_X12_88) (fun _ h9 => h9) rfl dX12_entryAt_6 ?_
  obtain ⟨q1, c1, h⟩ := x_call h
  refine xCallH (w2 := ThlW cA ad hr h0 s0) (zRunV (n := 0) (As := []) (rest := [.int 0, .int a1]) ⟨hx, hb, hml, hown, hts⟩ (kX6_keptCount l D cA ad (fun k => h0 (k + 7)) _ N s0.1.2.1 q1 c1) qco_X6_keptCount qml_X12_234 qin_X6_keptCount qse_X6_keptCount qini_X6 (by decide +kernel) (by rw [← erm]; rfl) hN hE hS hA hK hP hD [7, 8, 9, 10, 11, 12] rfl rfl (q0 := 0) rfl rfl rfl rfl rfl hl.1 rfl (lv_room (Nat.le_of_ble_eq_true rfl)) dX12_entryAt_9 ⟨Nat.zero_le _, Nat.zero_le _⟩) hP hD hS hA [7, 8, 9, 10, 11, 12] rfl rfl (xselH [none, none, none, none, none, none, none, some 0, some 1, some 2, some 3, some 4, some 5, none, none, none, none, none, none, none, none, none, none, none, none, none, none, none, none, none, none, none, none, none, none, none, none, none, none, none, none, none, none, none, none, none, none, none, none, none, none, none, none, none, none, none, none, none, none, none, none] rfl (by decide +kernel)) (fun H locs hP hD hS => ?_)
  refine lv_iconst (v := 1) hx hb dX12_entryAt_12 (by decide) ?_
  refine lv_isub hx hb dX12_entryAt_13 ?_
  obtain ⟨q2, c2, h⟩ := x_call h
  refine xCallH (w2 := ThlW cA ad hr h0 s0) (xRunS (n := 3) (As := [.int a1, .int 0, .int (q1 - 1)]) (rest := []) ⟨hx, hb, hml, hown, hts⟩ (kX12_isWithin l D cA  _ N a1 0 (q1 - 1) q2 c2) qco_X12_isWithin qml_X12_217 qst_X12_isWithin qini_X12 (by decide +kernel) (by rw [← erm]; rfl) hK hP hD [] rfl rfl rfl rfl hl.1 rfl (lv_room (Nat.le_of_ble_eq_true rfl)) dX12_entryAt_14 ⟨Nat.zero_le _, Nat.zero_le _⟩) hP hD hS hA [] rfl rfl (xselH [none, none, none, none, none, none, none, none, none, none, none, none, none, none, none, none, none, none, none, none, none, none, none, none, none, none, none, none, none, none, none, none, none, none, none, none, none, none, none, none, none, none, none, none, none, none, none, none, none, none, none, none, none, none, none, none, none, none, none, none, none] rfl (by decide +kernel)) (fun H locs hP hD hS => ?_)
  refine lv_if_ne (tgt := 30) hx hb dX12_entryAt_17 (by decide) (fun c3 => ?_) (fun c3 => ?_)
  · have h := x_f h c3
    refine lv_aload_n hx hb dX12_entryAt_30 rfl (lv_at hl 0 rfl) ?_
    refine va_get (D := D) (ci := 11) (v := .ref (h0 1)) (C := RX12) (T := TX12) (N := 10) hx hb hts iX12 hown hK hP 0 rfl rfl 0 (by decide) (hts _ qfl_X12_10) (fun _ h9 => h9) rfl dX12_entryAt_31 ?_
    refine va_getN (D := D) (ci := 4) (v := .ref (h0 7)) (C := RX3) (T := TX3) (N := 7) hx hb hts iX3 hown hK hP 1 rfl rfl 1 (by decide) (hN.use qfn_X12_88) (fun _ h9 => h9) rfl dX12_entryAt_34 ?_
    refine lv_iload_n hx hb dX12_entryAt_37 rfl (lv_at hl 1 rfl) ?_
    obtain ⟨q4, c4, h⟩ := x_call h
    refine xCallH (w2 := ThlW cA ad hr h0 s0) (zRunV (n := 1) (As := [.int a1]) (rest := []) ⟨hx, hb, hml, hown, hts⟩ (kX6_idAt l D cA ad (fun k => h0 (k + 7)) _ N a1 s0.1.2.1 q4 c4) qco_X6_idAt qml_X12_240 qin_X6_idAt qse_X6_idAt qini_X6 (by decide +kernel) (by rw [← erm]; rfl) hN hE hS hA hK hP hD [7, 8, 9, 10, 11, 12] rfl rfl (q0 := 0) rfl rfl rfl rfl rfl hl.1 rfl (lv_room (Nat.le_of_ble_eq_true rfl)) dX12_entryAt_38 ⟨Nat.zero_le _, Nat.zero_le _⟩) hP hD hS hA [7, 8, 9, 10, 11, 12] rfl rfl (xselH [none, none, none, none, none, none, none, some 0, some 1, some 2, some 3, some 4, some 5, none, none, none, none, none, none, none, none, none, none, none, none, none, none, none, none, none, none, none, none, none, none, none, none, none, none, none, none, none, none, none, none, none, none, none, none, none, none, none, none, none, none, none, none, none, none, none, none] rfl (by decide +kernel)) (fun H locs hP hD hS => ?_)
    have h := Option.some.inj h
    subst h
    refine W.widen (k := 1) (n := 6) (Nat.le_of_ble_eq_true rfl) (Nat.le_of_ble_eq_true rfl) ?_
    exact vIret hx hb hr9 hlocks hP hK hD hS dX12_entryAt_41
  · have h := x_t h c3
    have h := Option.some.inj h
    subst h
    exact vThrowN (n := 26) (text := "no such place") (is := 238) hx hb hl9 hown hts hN hV (by decide +kernel) hK hP hD hS (hl.1.trans hml.symm) dX12_entryAt_20 dX12_entryAt_23 (Or.inl ⟨rfl, dX12_entryAt_24⟩) dX12_entryAt_26 dX12_entryAt_29 htab (by rw [← erm]; rfl) hlocks (Nat.le_of_ble_eq_true rfl) (Nat.le_of_ble_eq_true rfl)
def fX12_checkEntry (N : Nat) (a1 : Int32) (s0 : ThlS) : Option (Nat) :=
  xcall (fX6_has N a1 s0.1.2.1) fun q1 =>
  if q1 = 0 then
    some 2
  else
    some 0
set_option maxRecDepth 100000 in
set_option maxHeartbeats 4000000 in
theorem kX12_checkEntry (l : Launch) (hl9 : l.stackTraces = false) (D : va_G) (cA : Nat → ClassId) (ad : Nat → Nat) (hr : Nat → Nat → Nat) (h0 : Nat → Nat) (sz N : Nat) (a1 : Int32) (s0 : ThlS) (q : Nat) (h : fX12_checkEntry N a1 s0 = some q) : vM l yX12_checkEntry cX12_checkEntry 2 none ({ frames := 6, cells := 1, slots := 6, locals := 90 }) D cA ad (ThlW cA ad hr h0 s0) sz [.ref (h0 0), .int a1] q (none) (ThlW cA ad hr h0 s0) 1 6 := by
  generalize erm : ({ frames := 6, cells := 1, slots := 6, locals := 90 } : Room) = rm
  refine vMet (by decide) (Nat.le_of_ble_eq_true rfl) ?_
  intro p e s m below meth c hx hb hr9 hlocks hml hts hown hin hK hP A eA hD hS hA hsz hN hE hV htab ls hl
  have hl : lv_has ls 2 [(0, .ref (h0 0)), (1, .int a1)] := hl
  clear eA
  rw [fX12_checkEntry] at h
  refine lv_aload_n hx hb dX12_checkEntry_0 rfl (lv_at hl 0 rfl) ?_
  refine va_get (D := D) (ci := 11) (v := .ref (h0 1)) (C := RX12) (T := TX12) (N := 10) hx hb hts iX12 hown hK hP 0 rfl rfl 0 (by decide) (hts _ qfl_X12_10) (fun _ h9 => h9) rfl dX12_checkEntry_1 ?_
  refine va_getN (D := D) (ci := 4) (v := .ref (h0 7)) (C := RX3) (T := TX3) (N := 7) hx hb hts iX3 hown hK hP 1 rfl rfl 1 (by decide) (hN.use qfn_X12_88) (fun _ h9 => h9) rfl dX12_checkEntry_4 ?_
  refine lv_iload_n hx hb dX12_checkEntry_7 rfl (lv_at hl 1 rfl) ?_
  obtain ⟨q1, c1, h⟩ := x_call h
  refine xCallH (w2 := ThlW cA ad hr h0 s0) (zRunV (n := 1) (As := [.int a1]) (rest := []) ⟨hx, hb, hml, hown, hts⟩ (kX6_has l D cA ad (fun k => h0 (k + 7)) _ N a1 s0.1.2.1 q1 c1) qco_X6_has qml_X12_446 qin_X6_has qse_X6_has qini_X6 (by decide +kernel) (by rw [← erm]; rfl) hN hE hS hA hK hP hD [7, 8, 9, 10, 11, 12] rfl rfl (q0 := 0) rfl rfl rfl rfl rfl hl.1 rfl (lv_room (Nat.le_of_ble_eq_true rfl)) dX12_checkEntry_8 ⟨Nat.zero_le _, Nat.zero_le _⟩) hP hD hS hA [7, 8, 9, 10, 11, 12] rfl rfl (xselH [none, none, none, none, none, none, none, some 0, some 1, some 2, some 3, some 4, some 5, none, none, none, none, none, none, none, none, none, none, none, none, none, none, none, none, none, none, none, none, none, none, none, none, none, none, none, none, none, none, none, none, none, none, none, none, none, none, none, none, none, none, none, none, none, none, none, none] rfl (by decide +kernel)) (fun H locs hP hD hS => ?_)
  refine lv_if_ne (tgt := 25) hx hb dX12_checkEntry_11 (by decide) (fun c2 => ?_) (fun c2 => ?_)
  · have h := x_f h c2
    have h := Option.some.inj h
    subst h
    refine W.widen (k := 1) (n := 6) (Nat.le_of_ble_eq_true rfl) (Nat.le_of_ble_eq_true rfl) ?_
    exact vVret hx hb hr9 hlocks hP hK hD hS dX12_checkEntry_25
  · have h := x_t h c2
    have h := Option.some.inj h
    subst h
    exact vThrowN (n := 21) (text := "no such entry is kept") (is := 426) hx hb hl9 hown hts hN hV (by decide +kernel) hK hP hD hS (hl.1.trans hml.symm) dX12_checkEntry_14 dX12_checkEntry_17 (Or.inr ⟨rfl, dX12_checkEntry_18⟩) dX12_checkEntry_21 dX12_checkEntry_24 htab (by rw [← erm]; rfl) hlocks (Nat.le_of_ble_eq_true rfl) (Nat.le_of_ble_eq_true rfl)
def fX12_debitOf (N : Nat) (a1 : Int32) (s0 : ThlS) : Option (Nat × Int32) :=
  xcall (fX12_checkEntry N a1 s0) fun q1 =>
  xthr q1 (some (q1, 0)) <|
  xcall (fX6_debitedBy N a1 s0.1.2.1) fun q2 =>
  some (0, q2)
set_option maxRecDepth 100000 in
set_option maxHeartbeats 4000000 in
theorem kX12_debitOf (l : Launch) (hl9 : l.stackTraces = false) (D : va_G) (cA : Nat → ClassId) (ad : Nat → Nat) (hr : Nat → Nat → Nat) (h0 : Nat → Nat) (sz N : Nat) (a1 : Int32) (s0 : ThlS) (q : Nat × Int32) (h : fX12_debitOf N a1 s0 = some q) : vM l yX12_debitOf cX12_debitOf 2 (some .int) ({ frames := 7, cells := 1, slots := 6, locals := 111 }) D cA ad (ThlW cA ad hr h0 s0) sz [.ref (h0 0), .int a1] q.1 (some (.int q.2)) (ThlW cA ad hr h0 s0) 1 6 := by
  generalize erm : ({ frames := 7, cells := 1, slots := 6, locals := 111 } : Room) = rm
  refine vMet (by decide) (Nat.le_of_ble_eq_true rfl) ?_
  intro p e s m below meth c hx hb hr9 hlocks hml hts hown hin hK hP A eA hD hS hA hsz hN hE hV htab ls hl
  have hl : lv_has ls 2 [(0, .ref (h0 0)), (1, .int a1)] := hl
  clear eA
  rw [fX12_debitOf] at h
  refine lv_aload_n hx hb dX12_debitOf_0 rfl (lv_at hl 0 rfl) ?_
  refine lv_iload_n hx hb dX12_debitOf_1 rfl (lv_at hl 1 rfl) ?_
  obtain ⟨q1, c1, h⟩ := x_call h
  refine vCall (w2 := ThlW cA ad hr h0 s0) (vRunV (n := 1) (As := [.int a1]) (rest := []) ⟨hx, hb, hml, hown, hts⟩ (kX12_checkEntry l hl9 D cA ad hr h0 _ N a1 s0 q1 c1) qco_X12_checkEntry qml_X12_243 qin_X12_checkEntry qse_X12_checkEntry qini_X12 (by decide +kernel) (by rw [← erm]; rfl) hN hE hV hS hA hK hP hD [0, 1, 2, 3, 4, 5, 6, 7, 8, 9, 10, 11, 12, 13, 14, 15, 16, 17, 18, 19, 20, 21, 22, 23, 24, 25, 26, 27, 28, 29, 30, 31, 32, 33, 34, 35, 36, 37, 38, 39, 40, 41, 42, 43, 44, 45, 46, 47, 48, 49, 50, 51, 52, 53, 54, 55, 56, 57, 58, 59, 60] rfl rfl (q0 := 0) rfl rfl rfl rfl rfl hl.1 rfl (lv_room (Nat.le_of_ble_eq_true rfl)) dX12_debitOf_2 ⟨by rw [← erm]; exact Nat.le_of_ble_eq_true rfl, by rw [← erm]; exact Nat.le_of_ble_eq_true rfl⟩) hP hD hS hA [0, 1, 2, 3, 4, 5, 6, 7, 8, 9, 10, 11, 12, 13, 14, 15, 16, 17, 18, 19, 20, 21, 22, 23, 24, 25, 26, 27, 28, 29, 30, 31, 32, 33, 34, 35, 36, 37, 38, 39, 40, 41, 42, 43, 44, 45, 46, 47, 48, 49, 50, 51, 52, 53, 54, 55, 56, 57, 58, 59, 60] rfl rfl (xselH [some 0, some 1, some 2, some 3, some 4, some 5, some 6, some 7, some 8, some 9, some 10, some 11, some 12, some 13, some 14, some 15, some 16, some 17, some 18, some 19, some 20, some 21, some 22, some 23, some 24, some 25, some 26, some 27, some 28, some 29, some 30, some 31, some 32, some 33, some 34, some 35, some 36, some 37, some 38, some 39, some 40, some 41, some 42, some 43, some 44, some 45, some 46, some 47, some 48, some 49, some 50, some 51, some 52, some 53, some 54, some 55, some 56, some 57, some 58, some 59, some 60] rfl (by decide +kernel)) (fun x1 q9 ce H locs hP hD hS hc1 hc2 hc3 => ?_) (fun x1 H locs hP hD hS => ?_)
  · have h := x_th1 h x1
    have h := Option.some.inj h
    subst h
    exact vOut (x := q1) htab hlocks hK hP hD hS x1 hc1 hc2 hc3 (Nat.le_of_ble_eq_true rfl) (Nat.le_of_ble_eq_true rfl)
  have h := x_th0 h x1
  refine lv_aload_n hx hb dX12_debitOf_5 rfl (lv_at hl 0 rfl) ?_
  refine va_get (D := D) (ci := 11) (v := .ref (h0 1)) (C := RX12) (T := TX12) (N := 10) hx hb hts iX12 hown hK hP 0 rfl rfl 0 (by decide) (hts _ qfl_X12_10) (fun _ h9 => h9) rfl dX12_debitOf_6 ?_
  refine va_getN (D := D) (ci := 4) (v := .ref (h0 7)) (C := RX3) (T := TX3) (N := 7) hx hb hts iX3 hown hK hP 1 rfl rfl 1 (by decide) (hN.use qfn_X12_88) (fun _ h9 => h9) rfl dX12_debitOf_9 ?_
  refine lv_iload_n hx hb dX12_debitOf_12 rfl (lv_at hl 1 rfl) ?_
  obtain ⟨q2, c2, h⟩ := x_call h
  refine xCallH (w2 := ThlW cA ad hr h0 s0) (zRunV (n := 1) (As := [.int a1]) (rest := []) ⟨hx, hb, hml, hown, hts⟩ (kX6_debitedBy l D cA ad (fun k => h0 (k + 7)) _ N a1 s0.1.2.1 q2 c2) qco_X6_debitedBy qml_X12_246 qin_X6_debitedBy qse_X6_debitedBy qini_X6 (by decide +kernel) (by rw [← erm]; rfl) hN hE hS hA hK hP hD [7, 8, 9, 10, 11, 12] rfl rfl (q0 := 0) rfl rfl rfl rfl rfl hl.1 rfl (lv_room (Nat.le_of_ble_eq_true rfl)) dX12_debitOf_13 ⟨by rw [← erm]; exact Nat.le_of_ble_eq_true rfl, by rw [← erm]; exact Nat.le_of_ble_eq_true rfl⟩) hP hD hS hA [7, 8, 9, 10, 11, 12] rfl rfl (xselH [none, none, none, none, none, none, none, some 0, some 1, some 2, some 3, some 4, some 5, none, none, none, none, none, none, none, none, none, none, none, none, none, none, none, none, none, none, none, none, none, none, none, none, none, none, none, none, none, none, none, none, none, none, none, none, none, none, none, none, none, none, none, none, none, none, none, none] rfl (by decide +kernel)) (fun H locs hP hD hS => ?_)
  have h := Option.some.inj h
  subst h
  refine W.widen (k := 1) (n := 6) (Nat.le_of_ble_eq_true rfl) (Nat.le_of_ble_eq_true rfl) ?_
  exact vIret hx hb hr9 hlocks hP hK hD hS dX12_debitOf_16
def fX12_creditOf (N : Nat) (a1 : Int32) (s0 : ThlS) : Option (Nat × Int32) :=
  xcall (fX12_checkEntry N a1 s0) fun q1 =>
  xthr q1 (some (q1, 0)) <|
  xcall (fX6_creditedBy N a1 s0.1.2.1) fun q2 =>
  some (0, q2)
set_option maxRecDepth 100000 in
set_option maxHeartbeats 4000000 in
theorem kX12_creditOf (l : Launch) (hl9 : l.stackTraces = false) (D : va_G) (cA : Nat → ClassId) (ad : Nat → Nat) (hr : Nat → Nat → Nat) (h0 : Nat → Nat) (sz N : Nat) (a1 : Int32) (s0 : ThlS) (q : Nat × Int32) (h : fX12_creditOf N a1 s0 = some q) : vM l yX12_creditOf cX12_creditOf 2 (some .int) ({ frames := 7, cells := 1, slots := 6, locals := 111 }) D cA ad (ThlW cA ad hr h0 s0) sz [.ref (h0 0), .int a1] q.1 (some (.int q.2)) (ThlW cA ad hr h0 s0) 1 6 := by
  generalize erm : ({ frames := 7, cells := 1, slots := 6, locals := 111 } : Room) = rm
  refine vMet (by decide) (Nat.le_of_ble_eq_true rfl) ?_
  intro p e s m below meth c hx hb hr9 hlocks hml hts hown hin hK hP A eA hD hS hA hsz hN hE hV htab ls hl
  have hl : lv_has ls 2 [(0, .ref (h0 0)), (1, .int a1)] := hl
  clear eA
  rw [fX12_creditOf] at h
  refine lv_aload_n hx hb dX12_creditOf_0 rfl (lv_at hl 0 rfl) ?_
  refine lv_iload_n hx hb dX12_creditOf_1 rfl (lv_at hl 1 rfl) ?_
  obtain ⟨q1, c1, h⟩ := x_call h
  refine vCall (w2 := ThlW cA ad hr h0 s0) (vRunV (n := 1) (As := [.int a1]) (rest := []) ⟨hx, hb, hml, hown, hts⟩ (kX12_checkEntry l hl9 D cA ad hr h0 _ N a1 s0 q1 c1) qco_X12_checkEntry qml_X12_243 qin_X12_checkEntry qse_X12_checkEntry qini_X12 (by decide +kernel) (by rw [← erm]; rfl) hN hE hV hS hA hK hP hD [0, 1, 2, 3, 4, 5, 6, 7, 8, 9, 10, 11, 12, 13, 14, 15, 16, 17, 18, 19, 20, 21, 22, 23, 24, 25, 26, 27, 28, 29, 30, 31, 32, 33, 34, 35, 36, 37, 38, 39, 40, 41, 42, 43, 44, 45, 46, 47, 48, 49, 50, 51, 52, 53, 54, 55, 56, 57, 58, 59, 60] rfl rfl (q0 := 0) rfl rfl rfl rfl rfl hl.1 rfl (lv_room (Nat.le_of_ble_eq_true rfl)) dX12_creditOf_2 ⟨by rw [← erm]; exact Nat.le_of_ble_eq_true rfl, by rw [← erm]; exact Nat.le_of_ble_eq_true rfl⟩) hP hD hS hA [0, 1, 2, 3, 4, 5, 6, 7, 8, 9, 10, 11, 12, 13, 14, 15, 16, 17, 18, 19, 20, 21, 22, 23, 24, 25, 26, 27, 28, 29, 30, 31, 32, 33, 34, 35, 36, 37, 38, 39, 40, 41, 42, 43, 44, 45, 46, 47, 48, 49, 50, 51, 52, 53, 54, 55, 56, 57, 58, 59, 60] rfl rfl (xselH [some 0, some 1, some 2, some 3, some 4, some 5, some 6, some 7, some 8, some 9, some 10, some 11, some 12, some 13, some 14, some 15, some 16, some 17, some 18, some 19, some 20, some 21, some 22, some 23, some 24, some 25, some 26, some 27, some 28, some 29, some 30, some 31, some 32, some 33, some 34, some 35, some 36, some 37, some 38, some 39, some 40, some 41, some 42, some 43, some 44, some 45, some 46, some 47, some 48, some 49, some 50, some 51, some 52, some 53, some 54, some 55, some 56, some 57, some 58, some 59, some 60] rfl (by decide +kernel)) (fun x1 q9 ce H locs hP hD hS hc1 hc2 hc3 => ?_) (fun x1 H locs hP hD hS => ?_)
  · have h := x_th1 h x1
    have h := Option.some.inj h
    subst h
    exact vOut (x := q1) htab hlocks hK hP hD hS x1 hc1 hc2 hc3 (Nat.le_of_ble_eq_true rfl) (Nat.le_of_ble_eq_true rfl)
  have h := x_th0 h x1
  refine lv_aload_n hx hb dX12_creditOf_5 rfl (lv_at hl 0 rfl) ?_
  refine va_get (D := D) (ci := 11) (v := .ref (h0 1)) (C := RX12) (T := TX12) (N := 10) hx hb hts iX12 hown hK hP 0 rfl rfl 0 (by decide) (hts _ qfl_X12_10) (fun _ h9 => h9) rfl dX12_creditOf_6 ?_
  refine va_getN (D := D) (ci := 4) (v := .ref (h0 7)) (C := RX3) (T := TX3) (N := 7) hx hb hts iX3 hown hK hP 1 rfl rfl 1 (by decide) (hN.use qfn_X12_88) (fun _ h9 => h9) rfl dX12_creditOf_9 ?_
  refine lv_iload_n hx hb dX12_creditOf_12 rfl (lv_at hl 1 rfl) ?_
  obtain ⟨q2, c2, h⟩ := x_call h
  refine xCallH (w2 := ThlW cA ad hr h0 s0) (zRunV (n := 1) (As := [.int a1]) (rest := []) ⟨hx, hb, hml, hown, hts⟩ (kX6_creditedBy l D cA ad (fun k => h0 (k + 7)) _ N a1 s0.1.2.1 q2 c2) qco_X6_creditedBy qml_X12_249 qin_X6_creditedBy qse_X6_creditedBy qini_X6 (by decide +kernel) (by rw [← erm]; rfl) hN hE hS hA hK hP hD [7, 8, 9, 10, 11, 12] rfl rfl (q0 := 0) rfl rfl rfl rfl rfl hl.1 rfl (lv_room (Nat.le_of_ble_eq_true rfl)) dX12_creditOf_13 ⟨by rw [← erm]; exact Nat.le_of_ble_eq_true rfl, by rw [← erm]; exact Nat.le_of_ble_eq_true rfl⟩) hP hD hS hA [7, 8, 9, 10, 11, 12] rfl rfl (xselH [none, none, none, none, none, none, none, some 0, some 1, some 2, some 3, some 4, some 5, none, none, none, none, none, none, none, none, none, none, none, none, none, none, none, none, none, none, none, none, none, none, none, none, none, none, none, none, none, none, none, none, none, none, none, none, none, none, none, none, none, none, none, none, none, none, none, none] rfl (by decide +kernel)) (fun H locs hP hD hS => ?_)
  have h := Option.some.inj h
  subst h
  refine W.widen (k := 1) (n := 6) (Nat.le_of_ble_eq_true rfl) (Nat.le_of_ble_eq_true rfl) ?_
  exact vIret hx hb hr9 hlocks hP hK hD hS dX12_creditOf_16
def fX12_amountOf (N : Nat) (a1 : Int32) (s0 : ThlS) : Option (Nat × Int64) :=
  xcall (fX12_checkEntry N a1 s0) fun q1 =>
  xthr q1 (some (q1, 0)) <|
  xcall (fX6_amountIn N a1 s0.1.2.1) fun q2 =>
  some (0, q2)
set_option maxRecDepth 100000 in
set_option maxHeartbeats 4000000 in
theorem kX12_amountOf (l : Launch) (hl9 : l.stackTraces = false) (D : va_G) (cA : Nat → ClassId) (ad : Nat → Nat) (hr : Nat → Nat → Nat) (h0 : Nat → Nat) (sz N : Nat) (a1 : Int32) (s0 : ThlS) (q : Nat × Int64) (h : fX12_amountOf N a1 s0 = some q) : vM l yX12_amountOf cX12_amountOf 2 (some .long) ({ frames := 7, cells := 1, slots := 6, locals := 111 }) D cA ad (ThlW cA ad hr h0 s0) sz [.ref (h0 0), .int a1] q.1 (some (.long q.2)) (ThlW cA ad hr h0 s0) 1 6 := by
  generalize erm : ({ frames := 7, cells := 1, slots := 6, locals := 111 } : Room) = rm
  refine vMet (by decide) (Nat.le_of_ble_eq_true rfl) ?_
  intro p e s m below meth c hx hb hr9 hlocks hml hts hown hin hK hP A eA hD hS hA hsz hN hE hV htab ls hl
  have hl : lv_has ls 2 [(0, .ref (h0 0)), (1, .int a1)] := hl
  clear eA
  rw [fX12_amountOf] at h
  refine lv_aload_n hx hb dX12_amountOf_0 rfl (lv_at hl 0 rfl) ?_
  refine lv_iload_n hx hb dX12_amountOf_1 rfl (lv_at hl 1 rfl) ?_
  obtain ⟨q1, c1, h⟩ := x_call h
  refine vCall (w2 := ThlW cA ad hr h0 s0) (vRunV (n := 1) (As := [.int a1]) (rest := []) ⟨hx, hb, hml, hown, hts⟩ (kX12_checkEntry l hl9 D cA ad hr h0 _ N a1 s0 q1 c1) qco_X12_checkEntry qml_X12_243 qin_X12_checkEntry qse_X12_checkEntry qini_X12 (by decide +kernel) (by rw [← erm]; rfl) hN hE hV hS hA hK hP hD [0, 1, 2, 3, 4, 5, 6, 7, 8, 9, 10, 11, 12, 13, 14, 15, 16, 17, 18, 19, 20, 21, 22, 23, 24, 25, 26, 27, 28, 29, 30, 31, 32, 33, 34, 35, 36, 37, 38, 39, 40, 41, 42, 43, 44, 45, 46, 47, 48, 49, 50, 51, 52, 53, 54, 55, 56, 57, 58, 59, 60] rfl rfl (q0 := 0) rfl rfl rfl rfl rfl hl.1 rfl (lv_room (Nat.le_of_ble_eq_true rfl)) dX12_amountOf_2 ⟨by rw [← erm]; exact Nat.le_of_ble_eq_true rfl, by rw [← erm]; exact Nat.le_of_ble_eq_true rfl⟩) hP hD hS hA [0, 1, 2, 3, 4, 5, 6, 7, 8, 9, 10, 11, 12, 13, 14, 15, 16, 17, 18, 19, 20, 21, 22, 23, 24, 25, 26, 27, 28, 29, 30, 31, 32, 33, 34, 35, 36, 37, 38, 39, 40, 41, 42, 43, 44, 45, 46, 47, 48, 49, 50, 51, 52, 53, 54, 55, 56, 57, 58, 59, 60] rfl rfl (xselH [some 0, some 1, some 2, some 3, some 4, some 5, some 6, some 7, some 8, some 9, some 10, some 11, some 12, some 13, some 14, some 15, some 16, some 17, some 18, some 19, some 20, some 21, some 22, some 23, some 24, some 25, some 26, some 27, some 28, some 29, some 30, some 31, some 32, some 33, some 34, some 35, some 36, some 37, some 38, some 39, some 40, some 41, some 42, some 43, some 44, some 45, some 46, some 47, some 48, some 49, some 50, some 51, some 52, some 53, some 54, some 55, some 56, some 57, some 58, some 59, some 60] rfl (by decide +kernel)) (fun x1 q9 ce H locs hP hD hS hc1 hc2 hc3 => ?_) (fun x1 H locs hP hD hS => ?_)
  · have h := x_th1 h x1
    have h := Option.some.inj h
    subst h
    exact vOut (x := q1) htab hlocks hK hP hD hS x1 hc1 hc2 hc3 (Nat.le_of_ble_eq_true rfl) (Nat.le_of_ble_eq_true rfl)
  have h := x_th0 h x1
  refine lv_aload_n hx hb dX12_amountOf_5 rfl (lv_at hl 0 rfl) ?_
  refine va_get (D := D) (ci := 11) (v := .ref (h0 1)) (C := RX12) (T := TX12) (N := 10) hx hb hts iX12 hown hK hP 0 rfl rfl 0 (by decide) (hts _ qfl_X12_10) (fun _ h9 => h9) rfl dX12_amountOf_6 ?_
  refine va_getN (D := D) (ci := 4) (v := .ref (h0 7)) (C := RX3) (T := TX3) (N := 7) hx hb hts iX3 hown hK hP 1 rfl rfl 1 (by decide) (hN.use qfn_X12_88) (fun _ h9 => h9) rfl dX12_amountOf_9 ?_
  refine lv_iload_n hx hb dX12_amountOf_12 rfl (lv_at hl 1 rfl) ?_
  obtain ⟨q2, c2, h⟩ := x_call h
  refine xCallH (w2 := ThlW cA ad hr h0 s0) (zRunV (n := 1) (As := [.int a1]) (rest := []) ⟨hx, hb, hml, hown, hts⟩ (kX6_amountIn l D cA ad (fun k => h0 (k + 7)) _ N a1 s0.1.2.1 q2 c2) qco_X6_amountIn qml_X12_252 qin_X6_amountIn qse_X6_amountIn qini_X6 (by decide +kernel) (by rw [← erm]; rfl) hN hE hS hA hK hP hD [7, 8, 9, 10, 11, 12] rfl rfl (q0 := 0) rfl rfl rfl rfl rfl hl.1 rfl (lv_room (Nat.le_of_ble_eq_true rfl)) dX12_amountOf_13 ⟨by rw [← erm]; exact Nat.le_of_ble_eq_true rfl, by rw [← erm]; exact Nat.le_of_ble_eq_true rfl⟩) hP hD hS hA [7, 8, 9, 10, 11, 12] rfl rfl (xselH [none, none, none, none, none, none, none, some 0, some 1, some 2, some 3, some 4, some 5, none, none, none, none, none, none, none, none, none, none, none, none, none, none, none, none, none, none, none, none, none, none, none, none, none, none, none, none, none, none, none, none, none, none, none, none, none, none, none, none, none, none, none, none, none, none, none, none] rfl (by decide +kernel)) (fun H locs hP hD hS => ?_)
  have h := Option.some.inj h
  subst h
  refine W.widen (k := 1) (n := 6) (Nat.le_of_ble_eq_true rfl) (Nat.le_of_ble_eq_true rfl) ?_
  exact vLret hx hb hr9 hlocks hP hK hD hS dX12_amountOf_16
def fX12_hourOf (N : Nat) (a1 : Int32) (s0 : ThlS) : Option (Nat × Int32) :=
  xcall (fX12_checkEntry N a1 s0) fun q1 =>
  xthr q1 (some (q1, 0)) <|
  xcall (fX6_hourAt N a1 s0.1.2.1) fun q2 =>
  some (0, q2)
set_option maxRecDepth 100000 in
set_option maxHeartbeats 4000000 in
theorem kX12_hourOf (l : Launch) (hl9 : l.stackTraces = false) (D : va_G) (cA : Nat → ClassId) (ad : Nat → Nat) (hr : Nat → Nat → Nat) (h0 : Nat → Nat) (sz N : Nat) (a1 : Int32) (s0 : ThlS) (q : Nat × Int32) (h : fX12_hourOf N a1 s0 = some q) : vM l yX12_hourOf cX12_hourOf 2 (some .int) ({ frames := 7, cells := 1, slots := 6, locals := 111 }) D cA ad (ThlW cA ad hr h0 s0) sz [.ref (h0 0), .int a1] q.1 (some (.int q.2)) (ThlW cA ad hr h0 s0) 1 6 := by
  generalize erm : ({ frames := 7, cells := 1, slots := 6, locals := 111 } : Room) = rm
  refine vMet (by decide) (Nat.le_of_ble_eq_true rfl) ?_
  intro p e s m below meth c hx hb hr9 hlocks hml hts hown hin hK hP A eA hD hS hA hsz hN hE hV htab ls hl
  have hl : lv_has ls 2 [(0, .ref (h0 0)), (1, .int a1)] := hl
  clear eA
  rw [fX12_hourOf] at h
  refine lv_aload_n hx hb dX12_hourOf_0 rfl (lv_at hl 0 rfl) ?_
  refine lv_iload_n hx hb dX12_hourOf_1 rfl (lv_at hl 1 rfl) ?_
  obtain ⟨q1, c1, h⟩ := x_call h
  refine vCall (w2 := ThlW cA ad hr h0 s0) (vRunV (n := 1) (As := [.int a1]) (rest := []) ⟨hx, hb, hml, hown, hts⟩ (kX12_checkEntry l hl9 D cA ad hr h0 _ N a1 s0 q1 c1) qco_X12_checkEntry qml_X12_243 qin_X12_checkEntry qse_X12_checkEntry qini_X12 (by decide +kernel) (by rw [← erm]; rfl) hN hE hV hS hA hK hP hD [0, 1, 2, 3, 4, 5, 6, 7, 8, 9, 10, 11, 12, 13, 14, 15, 16, 17, 18, 19, 20, 21, 22, 23, 24, 25, 26, 27, 28, 29, 30, 31, 32, 33, 34, 35, 36, 37, 38, 39, 40, 41, 42, 43, 44, 45, 46, 47, 48, 49, 50, 51, 52, 53, 54, 55, 56, 57, 58, 59, 60] rfl rfl (q0 := 0) rfl rfl rfl rfl rfl hl.1 rfl (lv_room (Nat.le_of_ble_eq_true rfl)) dX12_hourOf_2 ⟨by rw [← erm]; exact Nat.le_of_ble_eq_true rfl, by rw [← erm]; exact Nat.le_of_ble_eq_true rfl⟩) hP hD hS hA [0, 1, 2, 3, 4, 5, 6, 7, 8, 9, 10, 11, 12, 13, 14, 15, 16, 17, 18, 19, 20, 21, 22, 23, 24, 25, 26, 27, 28, 29, 30, 31, 32, 33, 34, 35, 36, 37, 38, 39, 40, 41, 42, 43, 44, 45, 46, 47, 48, 49, 50, 51, 52, 53, 54, 55, 56, 57, 58, 59, 60] rfl rfl (xselH [some 0, some 1, some 2, some 3, some 4, some 5, some 6, some 7, some 8, some 9, some 10, some 11, some 12, some 13, some 14, some 15, some 16, some 17, some 18, some 19, some 20, some 21, some 22, some 23, some 24, some 25, some 26, some 27, some 28, some 29, some 30, some 31, some 32, some 33, some 34, some 35, some 36, some 37, some 38, some 39, some 40, some 41, some 42, some 43, some 44, some 45, some 46, some 47, some 48, some 49, some 50, some 51, some 52, some 53, some 54, some 55, some 56, some 57, some 58, some 59, some 60] rfl (by decide +kernel)) (fun x1 q9 ce H locs hP hD hS hc1 hc2 hc3 => ?_) (fun x1 H locs hP hD hS => ?_)
  · have h := x_th1 h x1
    have h := Option.some.inj h
    subst h
    exact vOut (x := q1) htab hlocks hK hP hD hS x1 hc1 hc2 hc3 (Nat.le_of_ble_eq_true rfl) (Nat.le_of_ble_eq_true rfl)
  have h := x_th0 h x1
  refine lv_aload_n hx hb dX12_hourOf_5 rfl (lv_at hl 0 rfl) ?_
  refine va_get (D := D) (ci := 11) (v := .ref (h0 1)) (C := RX12) (T := TX12) (N := 10) hx hb hts iX12 hown hK hP 0 rfl rfl 0 (by decide) (hts _ qfl_X12_10) (fun _ h9 => h9) rfl dX12_hourOf_6 ?_
  refine va_getN (D := D) (ci := 4) (v := .ref (h0 7)) (C := RX3) (T := TX3) (N := 7) hx hb hts iX3 hown hK hP 1 rfl rfl 1 (by decide) (hN.use qfn_X12_88) (fun _ h9 => h9) rfl dX12_hourOf_9 ?_
  refine lv_iload_n hx hb dX12_hourOf_12 rfl (lv_at hl 1 rfl) ?_
  obtain ⟨q2, c2, h⟩ := x_call h
  refine xCallH (w2 := ThlW cA ad hr h0 s0) (zRunV (n := 1) (As := [.int a1]) (rest := []) ⟨hx, hb, hml, hown, hts⟩ (kX6_hourAt l D cA ad (fun k => h0 (k + 7)) _ N a1 s0.1.2.1 q2 c2) qco_X6_hourAt qml_X12_255 qin_X6_hourAt qse_X6_hourAt qini_X6 (by decide +kernel) (by rw [← erm]; rfl) hN hE hS hA hK hP hD [7, 8, 9, 10, 11, 12] rfl rfl (q0 := 0) rfl rfl rfl rfl rfl hl.1 rfl (lv_room (Nat.le_of_ble_eq_true rfl)) dX12_hourOf_13 ⟨by rw [← erm]; exact Nat.le_of_ble_eq_true rfl, by rw [← erm]; exact Nat.le_of_ble_eq_true rfl⟩) hP hD hS hA [7, 8, 9, 10, 11, 12] rfl rfl (xselH [none, none, none, none, none, none, none, some 0, some 1, some 2, some 3, some 4, some 5, none, none, none, none, none, none, none, none, none, none, none, none, none, none, none, none, none, none, none, none, none, none, none, none, none, none, none, none, none, none, none, none, none, none, none, none, none, none, none, none, none, none, none, none, none, none, none, none] rfl (by decide +kernel)) (fun H locs hP hD hS => ?_)
  have h := Option.some.inj h
  subst h
  refine W.widen (k := 1) (n := 6) (Nat.le_of_ble_eq_true rfl) (Nat.le_of_ble_eq_true rfl) ?_
  exact vIret hx hb hr9 hlocks hP hK hD hS dX12_hourOf_16
def fX12_isReversed (N : Nat) (a1 : Int32) (s0 : ThlS) : Option (Nat × Int32) :=
  xcall (fX12_checkEntry N a1 s0) fun q1 =>
  xthr q1 (some (q1, 0)) <|
  xcall (fX6_wasReversed N a1 s0.1.2.1) fun q2 =>
  xnz (xnar .boolean q2) <|
  some (0, q2)
set_option maxRecDepth 100000 in
set_option maxHeartbeats 4000000 in
theorem kX12_isReversed (l : Launch) (hl9 : l.stackTraces = false) (D : va_G) (cA : Nat → ClassId) (ad : Nat → Nat) (hr : Nat → Nat → Nat) (h0 : Nat → Nat) (sz N : Nat) (a1 : Int32) (s0 : ThlS) (q : Nat × Int32) (h : fX12_isReversed N a1 s0 = some q) : vM l yX12_isReversed cX12_isReversed 2 (some .boolean) ({ frames := 7, cells := 1, slots := 6, locals := 111 }) D cA ad (ThlW cA ad hr h0 s0) sz [.ref (h0 0), .int a1] q.1 (some (.int q.2)) (ThlW cA ad hr h0 s0) 1 6 := by
  generalize erm : ({ frames := 7, cells := 1, slots := 6, locals := 111 } : Room) = rm
  refine vMet (by decide) (Nat.le_of_ble_eq_true rfl) ?_
  intro p e s m below meth c hx hb hr9 hlocks hml hts hown hin hK hP A eA hD hS hA hsz hN hE hV htab ls hl
  have hl : lv_has ls 2 [(0, .ref (h0 0)), (1, .int a1)] := hl
  clear eA
  rw [fX12_isReversed] at h
  refine lv_aload_n hx hb dX12_isReversed_0 rfl (lv_at hl 0 rfl) ?_
  refine lv_iload_n hx hb dX12_isReversed_1 rfl (lv_at hl 1 rfl) ?_
  obtain ⟨q1, c1, h⟩ := x_call h
  refine vCall (w2 := ThlW cA ad hr h0 s0) (vRunV (n := 1) (As := [.int a1]) (rest := []) ⟨hx, hb, hml, hown, hts⟩ (kX12_checkEntry l hl9 D cA ad hr h0 _ N a1 s0 q1 c1) qco_X12_checkEntry qml_X12_243 qin_X12_checkEntry qse_X12_checkEntry qini_X12 (by decide +kernel) (by rw [← erm]; rfl) hN hE hV hS hA hK hP hD [0, 1, 2, 3, 4, 5, 6, 7, 8, 9, 10, 11, 12, 13, 14, 15, 16, 17, 18, 19, 20, 21, 22, 23, 24, 25, 26, 27, 28, 29, 30, 31, 32, 33, 34, 35, 36, 37, 38, 39, 40, 41, 42, 43, 44, 45, 46, 47, 48, 49, 50, 51, 52, 53, 54, 55, 56, 57, 58, 59, 60] rfl rfl (q0 := 0) rfl rfl rfl rfl rfl hl.1 rfl (lv_room (Nat.le_of_ble_eq_true rfl)) dX12_isReversed_2 ⟨by rw [← erm]; exact Nat.le_of_ble_eq_true rfl, by rw [← erm]; exact Nat.le_of_ble_eq_true rfl⟩) hP hD hS hA [0, 1, 2, 3, 4, 5, 6, 7, 8, 9, 10, 11, 12, 13, 14, 15, 16, 17, 18, 19, 20, 21, 22, 23, 24, 25, 26, 27, 28, 29, 30, 31, 32, 33, 34, 35, 36, 37, 38, 39, 40, 41, 42, 43, 44, 45, 46, 47, 48, 49, 50, 51, 52, 53, 54, 55, 56, 57, 58, 59, 60] rfl rfl (xselH [some 0, some 1, some 2, some 3, some 4, some 5, some 6, some 7, some 8, some 9, some 10, some 11, some 12, some 13, some 14, some 15, some 16, some 17, some 18, some 19, some 20, some 21, some 22, some 23, some 24, some 25, some 26, some 27, some 28, some 29, some 30, some 31, some 32, some 33, some 34, some 35, some 36, some 37, some 38, some 39, some 40, some 41, some 42, some 43, some 44, some 45, some 46, some 47, some 48, some 49, some 50, some 51, some 52, some 53, some 54, some 55, some 56, some 57, some 58, some 59, some 60] rfl (by decide +kernel)) (fun x1 q9 ce H locs hP hD hS hc1 hc2 hc3 => ?_) (fun x1 H locs hP hD hS => ?_)
  · have h := x_th1 h x1
    have h := Option.some.inj h
    subst h
    exact vOut (x := q1) htab hlocks hK hP hD hS x1 hc1 hc2 hc3 (Nat.le_of_ble_eq_true rfl) (Nat.le_of_ble_eq_true rfl)
  have h := x_th0 h x1
  refine lv_aload_n hx hb dX12_isReversed_5 rfl (lv_at hl 0 rfl) ?_
  refine va_get (D := D) (ci := 11) (v := .ref (h0 1)) (C := RX12) (T := TX12) (N := 10) hx hb hts iX12 hown hK hP 0 rfl rfl 0 (by decide) (hts _ qfl_X12_10) (fun _ h9 => h9) rfl dX12_isReversed_6 ?_
  refine va_getN (D := D) (ci := 4) (v := .ref (h0 7)) (C := RX3) (T := TX3) (N := 7) hx hb hts iX3 hown hK hP 1 rfl rfl 1 (by decide) (hN.use qfn_X12_88) (fun _ h9 => h9) rfl dX12_isReversed_9 ?_
  refine lv_iload_n hx hb dX12_isReversed_12 rfl (lv_at hl 1 rfl) ?_
  obtain ⟨q2, c2, h⟩ := x_call h
  refine xCallH (w2 := ThlW cA ad hr h0 s0) (zRunV (n := 1) (As := [.int a1]) (rest := []) ⟨hx, hb, hml, hown, hts⟩ (kX6_wasReversed l D cA ad (fun k => h0 (k + 7)) _ N a1 s0.1.2.1 q2 c2) qco_X6_wasReversed qml_X12_258 qin_X6_wasReversed qse_X6_wasReversed qini_X6 (by decide +kernel) (by rw [← erm]; rfl) hN hE hS hA hK hP hD [7, 8, 9, 10, 11, 12] rfl rfl (q0 := 0) rfl rfl rfl rfl rfl hl.1 rfl (lv_room (Nat.le_of_ble_eq_true rfl)) dX12_isReversed_13 ⟨by rw [← erm]; exact Nat.le_of_ble_eq_true rfl, by rw [← erm]; exact Nat.le_of_ble_eq_true rfl⟩) hP hD hS hA [7, 8, 9, 10, 11, 12] rfl rfl (xselH [none, none, none, none, none, none, none, some 0, some 1, some 2, some 3, some 4, some 5, none, none, none, none, none, none, none, none, none, none, none, none, none, none, none, none, none, none, none, none, none, none, none, none, none, none, none, none, none, none, none, none, none, none, none, none, none, none, none, none, none, none, none, none, none, none, none, none] rfl (by decide +kernel)) (fun H locs hP hD hS => ?_)
  obtain ⟨z3, h⟩ := x_nz h
  have h := Option.some.inj h
  subst h
  refine W.widen (k := 1) (n := 6) (Nat.le_of_ble_eq_true rfl) (Nat.le_of_ble_eq_true rfl) ?_
  exact vZret hx hb hr9 hlocks (xnar_n z3) hP hK hD hS dX12_isReversed_16
def fX12_hoursUntilPrompt (N : Nat) (a1 : Int32) (s0 : ThlS) : Option (Nat × Int32) :=
  xcall (fX12_checkPrompt N a1 s0) fun q1 =>
  xthr q1 (some (q1, 0)) <|
  xcall (fX8_hoursLeftOf N a1 s0.1.2.2.1) fun q2 =>
  some (0, q2)
set_option maxRecDepth 100000 in
set_option maxHeartbeats 4000000 in
theorem kX12_hoursUntilPrompt (l : Launch) (hl9 : l.stackTraces = false) (D : va_G) (cA : Nat → ClassId) (ad : Nat → Nat) (hr : Nat → Nat → Nat) (h0 : Nat → Nat) (sz N : Nat) (a1 : Int32) (s0 : ThlS) (q : Nat × Int32) (h : fX12_hoursUntilPrompt N a1 s0 = some q) : vM l yX12_hoursUntilPrompt cX12_hoursUntilPrompt 2 (some .int) ({ frames := 7, cells := 1, slots := 6, locals := 111 }) D cA ad (ThlW cA ad hr h0 s0) sz [.ref (h0 0), .int a1] q.1 (some (.int q.2)) (ThlW cA ad hr h0 s0) 1 6 := by
  generalize erm : ({ frames := 7, cells := 1, slots := 6, locals := 111 } : Room) = rm
  refine vMet (by decide) (Nat.le_of_ble_eq_true rfl) ?_
  intro p e s m below meth c hx hb hr9 hlocks hml hts hown hin hK hP A eA hD hS hA hsz hN hE hV htab ls hl
  have hl : lv_has ls 2 [(0, .ref (h0 0)), (1, .int a1)] := hl
  clear eA
  rw [fX12_hoursUntilPrompt] at h
  refine lv_aload_n hx hb dX12_hoursUntilPrompt_0 rfl (lv_at hl 0 rfl) ?_
  refine lv_iload_n hx hb dX12_hoursUntilPrompt_1 rfl (lv_at hl 1 rfl) ?_
  obtain ⟨q1, c1, h⟩ := x_call h
  refine vCall (w2 := ThlW cA ad hr h0 s0) (vRunV (n := 1) (As := [.int a1]) (rest := []) ⟨hx, hb, hml, hown, hts⟩ (kX12_checkPrompt l hl9 D cA ad hr h0 _ N a1 s0 q1 c1) qco_X12_checkPrompt qml_X12_113 qin_X12_checkPrompt qse_X12_checkPrompt qini_X12 (by decide +kernel) (by rw [← erm]; rfl) hN hE hV hS hA hK hP hD [0, 1, 2, 3, 4, 5, 6, 7, 8, 9, 10, 11, 12, 13, 14, 15, 16, 17, 18, 19, 20, 21, 22, 23, 24, 25, 26, 27, 28, 29, 30, 31, 32, 33, 34, 35, 36, 37, 38, 39, 40, 41, 42, 43, 44, 45, 46, 47, 48, 49, 50, 51, 52, 53, 54, 55, 56, 57, 58, 59, 60] rfl rfl (q0 := 0) rfl rfl rfl rfl rfl hl.1 rfl (lv_room (Nat.le_of_ble_eq_true rfl)) dX12_hoursUntilPrompt_2 ⟨by rw [← erm]; exact Nat.le_of_ble_eq_true rfl, by rw [← erm]; exact Nat.le_of_ble_eq_true rfl⟩) hP hD hS hA [0, 1, 2, 3, 4, 5, 6, 7, 8, 9, 10, 11, 12, 13, 14, 15, 16, 17, 18, 19, 20, 21, 22, 23, 24, 25, 26, 27, 28, 29, 30, 31, 32, 33, 34, 35, 36, 37, 38, 39, 40, 41, 42, 43, 44, 45, 46, 47, 48, 49, 50, 51, 52, 53, 54, 55, 56, 57, 58, 59, 60] rfl rfl (xselH [some 0, some 1, some 2, some 3, some 4, some 5, some 6, some 7, some 8, some 9, some 10, some 11, some 12, some 13, some 14, some 15, some 16, some 17, some 18, some 19, some 20, some 21, some 22, some 23, some 24, some 25, some 26, some 27, some 28, some 29, some 30, some 31, some 32, some 33, some 34, some 35, some 36, some 37, some 38, some 39, some 40, some 41, some 42, some 43, some 44, some 45, some 46, some 47, some 48, some 49, some 50, some 51, some 52, some 53, some 54, some 55, some 56, some 57, some 58, some 59, some 60] rfl (by decide +kernel)) (fun x1 q9 ce H locs hP hD hS hc1 hc2 hc3 => ?_) (fun x1 H locs hP hD hS => ?_)
  · have h := x_th1 h x1
    have h := Option.some.inj h
    subst h
    exact vOut (x := q1) htab hlocks hK hP hD hS x1 hc1 hc2 hc3 (Nat.le_of_ble_eq_true rfl) (Nat.le_of_ble_eq_true rfl)
  have h := x_th0 h x1
  refine lv_aload_n hx hb dX12_hoursUntilPrompt_5 rfl (lv_at hl 0 rfl) ?_
  refine va_get (D := D) (ci := 11) (v := .ref (h0 1)) (C := RX12) (T := TX12) (N := 10) hx hb hts iX12 hown hK hP 0 rfl rfl 0 (by decide) (hts _ qfl_X12_10) (fun _ h9 => h9) rfl dX12_hoursUntilPrompt_6 ?_
  refine va_getN (D := D) (ci := 4) (v := .ref (h0 13)) (C := RX3) (T := TX3) (N := 7) hx hb hts iX3 hown hK hP 1 rfl rfl 2 (by decide) (hN.use qfn_X12_101) (fun _ h9 => h9) rfl dX12_hoursUntilPrompt_9 ?_
  refine lv_iload_n hx hb dX12_hoursUntilPrompt_12 rfl (lv_at hl 1 rfl) ?_
  obtain ⟨q2, c2, h⟩ := x_call h
  refine xCallH (w2 := ThlW cA ad hr h0 s0) (zRunV (n := 1) (As := [.int a1]) (rest := []) ⟨hx, hb, hml, hown, hts⟩ (kX8_hoursLeftOf l D cA ad (fun k => h0 (k + 13)) _ N a1 s0.1.2.2.1 q2 c2) qco_X8_hoursLeftOf qml_X12_263 qin_X8_hoursLeftOf qse_X8_hoursLeftOf qini_X8 (by decide +kernel) (by rw [← erm]; rfl) hN hE hS hA hK hP hD [13, 14, 15, 16, 17, 18, 19] rfl rfl (q0 := 0) rfl rfl rfl rfl rfl hl.1 rfl (lv_room (Nat.le_of_ble_eq_true rfl)) dX12_hoursUntilPrompt_13 ⟨by rw [← erm]; exact Nat.le_of_ble_eq_true rfl, by rw [← erm]; exact Nat.le_of_ble_eq_true rfl⟩) hP hD hS hA [13, 14, 15, 16, 17, 18, 19] rfl rfl (xselH [none, none, none, none, none, none, none, none, none, none, none, none, none, some 0, some 1, some 2, some 3, some 4, some 5, some 6, none, none, none, none, none, none, none, none, none, none, none, none, none, none, none, none, none, none, none, none, none, none, none, none, none, none, none, none, none, none, none, none, none, none, none, none, none, none, none, none, none] rfl (by decide +kernel)) (fun H locs hP hD hS => ?_)
  have h := Option.some.inj h
  subst h
  refine W.widen (k := 1) (n := 6) (Nat.le_of_ble_eq_true rfl) (Nat.le_of_ble_eq_true rfl) ?_
  exact vIret hx hb hr9 hlocks hP hK hD hS dX12_hoursUntilPrompt_16
def fX12_timesLeft (N : Nat) (a1 : Int32) (s0 : ThlS) : Option (Nat × Int32) :=
  xcall (fX12_checkPrompt N a1 s0) fun q1 =>
  xthr q1 (some (q1, 0)) <|
  xcall (fX8_timesLeftOf N a1 s0.1.2.2.1) fun q2 =>
  some (0, q2)
set_option maxRecDepth 100000 in
set_option maxHeartbeats 4000000 in
theorem kX12_timesLeft (l : Launch) (hl9 : l.stackTraces = false) (D : va_G) (cA : Nat → ClassId) (ad : Nat → Nat) (hr : Nat → Nat → Nat) (h0 : Nat → Nat) (sz N : Nat) (a1 : Int32) (s0 : ThlS) (q : Nat × Int32) (h : fX12_timesLeft N a1 s0 = some q) : vM l yX12_timesLeft cX12_timesLeft 2 (some .int) ({ frames := 7, cells := 1, slots := 6, locals := 111 }) D cA ad (ThlW cA ad hr h0 s0) sz [.ref (h0 0), .int a1] q.1 (some (.int q.2)) (ThlW cA ad hr h0 s0) 1 6 := by
  generalize erm : ({ frames := 7, cells := 1, slots := 6, locals := 111 } : Room) = rm
  refine vMet (by decide) (Nat.le_of_ble_eq_true rfl) ?_
  intro p e s m below meth c hx hb hr9 hlocks hml hts hown hin hK hP A eA hD hS hA hsz hN hE hV htab ls hl
  have hl : lv_has ls 2 [(0, .ref (h0 0)), (1, .int a1)] := hl
  clear eA
  rw [fX12_timesLeft] at h
  refine lv_aload_n hx hb dX12_timesLeft_0 rfl (lv_at hl 0 rfl) ?_
  refine lv_iload_n hx hb dX12_timesLeft_1 rfl (lv_at hl 1 rfl) ?_
  obtain ⟨q1, c1, h⟩ := x_call h
  refine vCall (w2 := ThlW cA ad hr h0 s0) (vRunV (n := 1) (As := [.int a1]) (rest := []) ⟨hx, hb, hml, hown, hts⟩ (kX12_checkPrompt l hl9 D cA ad hr h0 _ N a1 s0 q1 c1) qco_X12_checkPrompt qml_X12_113 qin_X12_checkPrompt qse_X12_checkPrompt qini_X12 (by decide +kernel) (by rw [← erm]; rfl) hN hE hV hS hA hK hP hD [0, 1, 2, 3, 4, 5, 6, 7, 8, 9, 10, 11, 12, 13, 14, 15, 16, 17, 18, 19, 20, 21, 22, 23, 24, 25, 26, 27, 28, 29, 30, 31, 32, 33, 34, 35, 36, 37, 38, 39, 40, 41, 42, 43, 44, 45, 46, 47, 48, 49, 50, 51, 52, 53, 54, 55, 56, 57, 58, 59, 60] rfl rfl (q0 := 0) rfl rfl rfl rfl rfl hl.1 rfl (lv_room (Nat.le_of_ble_eq_true rfl)) dX12_timesLeft_2 ⟨by rw [← erm]; exact Nat.le_of_ble_eq_true rfl, by rw [← erm]; exact Nat.le_of_ble_eq_true rfl⟩) hP hD hS hA [0, 1, 2, 3, 4, 5, 6, 7, 8, 9, 10, 11, 12, 13, 14, 15, 16, 17, 18, 19, 20, 21, 22, 23, 24, 25, 26, 27, 28, 29, 30, 31, 32, 33, 34, 35, 36, 37, 38, 39, 40, 41, 42, 43, 44, 45, 46, 47, 48, 49, 50, 51, 52, 53, 54, 55, 56, 57, 58, 59, 60] rfl rfl (xselH [some 0, some 1, some 2, some 3, some 4, some 5, some 6, some 7, some 8, some 9, some 10, some 11, some 12, some 13, some 14, some 15, some 16, some 17, some 18, some 19, some 20, some 21, some 22, some 23, some 24, some 25, some 26, some 27, some 28, some 29, some 30, some 31, some 32, some 33, some 34, some 35, some 36, some 37, some 38, some 39, some 40, some 41, some 42, some 43, some 44, some 45, some 46, some 47, some 48, some 49, some 50, some 51, some 52, some 53, some 54, some 55, some 56, some 57, some 58, some 59, some 60] rfl (by decide +kernel)) (fun x1 q9 ce H locs hP hD hS hc1 hc2 hc3 => ?_) (fun x1 H locs hP hD hS => ?_)
  · have h := x_th1 h x1
    have h := Option.some.inj h
    subst h
    exact vOut (x := q1) htab hlocks hK hP hD hS x1 hc1 hc2 hc3 (Nat.le_of_ble_eq_true rfl) (Nat.le_of_ble_eq_true rfl)
  have h := x_th0 h x1
  refine lv_aload_n hx hb dX12_timesLeft_5 rfl (lv_at hl 0 rfl) ?_
  refine va_get (D := D) (ci := 11) (v := .ref (h0 1)) (C := RX12) (T := TX12) (N := 10) hx hb hts iX12 hown hK hP 0 rfl rfl 0 (by decide) (hts _ qfl_X12_10) (fun _ h9 => h9) rfl dX12_timesLeft_6 ?_
  refine va_getN (D := D) (ci := 4) (v := .ref (h0 13)) (C := RX3) (T := TX3) (N := 7) hx hb hts iX3 hown hK hP 1 rfl rfl 2 (by decide) (hN.use qfn_X12_101) (fun _ h9 => h9) rfl dX12_timesLeft_9 ?_
  refine lv_iload_n hx hb dX12_timesLeft_12 rfl (lv_at hl 1 rfl) ?_
  obtain ⟨q2, c2, h⟩ := x_call h
  refine xCallH (w2 := ThlW cA ad hr h0 s0) (zRunV (n := 1) (As := [.int a1]) (rest := []) ⟨hx, hb, hml, hown, hts⟩ (kX8_timesLeftOf l D cA ad (fun k => h0 (k + 13)) _ N a1 s0.1.2.2.1 q2 c2) qco_X8_timesLeftOf qml_X12_266 qin_X8_timesLeftOf qse_X8_timesLeftOf qini_X8 (by decide +kernel) (by rw [← erm]; rfl) hN hE hS hA hK hP hD [13, 14, 15, 16, 17, 18, 19] rfl rfl (q0 := 0) rfl rfl rfl rfl rfl hl.1 rfl (lv_room (Nat.le_of_ble_eq_true rfl)) dX12_timesLeft_13 ⟨by rw [← erm]; exact Nat.le_of_ble_eq_true rfl, by rw [← erm]; exact Nat.le_of_ble_eq_true rfl⟩) hP hD hS hA [13, 14, 15, 16, 17, 18, 19] rfl rfl (xselH [none, none, none, none, none, none, none, none, none, none, none, none, none, some 0, some 1, some 2, some 3, some 4, some 5, some 6, none, none, none, none, none, none, none, none, none, none, none, none, none, none, none, none, none, none, none, none, none, none, none, none, none, none, none, none, none, none, none, none, none, none, none, none, none, none, none, none, none] rfl (by decide +kernel)) (fun H locs hP hD hS => ?_)
  have h := Option.some.inj h
  subst h
  refine W.widen (k := 1) (n := 6) (Nat.le_of_ble_eq_true rfl) (Nat.le_of_ble_eq_true rfl) ?_
  exact vIret hx hb hr9 hlocks hP hK hD hS dX12_timesLeft_16
def fX12_cashIn (N : Nat) (a1 : Int32) (s0 : ThlS) : Option (Nat × Int64) :=
  xcall (fX12_isWithin N a1 0 24) fun q1 =>
  if q1 = 0 then
    some (3, 0)
  else
    xcall (fX1_balanceAt N 0 s0.1.1) fun q3 =>
    xcall (fX8_netDebits N 0 a1 s0.1.2.2.1) fun q4 =>
    some (0, q3 + q4)
set_option maxRecDepth 100000 in
set_option maxHeartbeats 4000000 in
theorem kX12_cashIn (l : Launch) (hl9 : l.stackTraces = false) (D : va_G) (cA : Nat → ClassId) (ad : Nat → Nat) (hr : Nat → Nat → Nat) (h0 : Nat → Nat) (sz N : Nat) (a1 : Int32) (s0 : ThlS) (q : Nat × Int64) (h : fX12_cashIn N a1 s0 = some q) : vM l yX12_cashIn cX12_cashIn 2 (some .long) ({ frames := 6, cells := 1, slots := 6, locals := 90 }) D cA ad (ThlW cA ad hr h0 s0) sz [.ref (h0 0), .int a1] q.1 (some (.long q.2)) (ThlW cA ad hr h0 s0) 1 6 := by
  generalize erm : ({ frames := 6, cells := 1, slots := 6, locals := 90 } : Room) = rm
  refine vMet (by decide) (Nat.le_of_ble_eq_true rfl) ?_
  intro p e s m below meth c hx hb hr9 hlocks hml hts hown hin hK hP A eA hD hS hA hsz hN hE hV htab ls hl
  have hl : lv_has ls 2 [(0, .ref (h0 0)), (1, .int a1)] := hl
  clear eA
  rw [fX12_cashIn] at h
  refine lv_iload_n hx hb dX12_cashIn_0 rfl (lv_at hl 1 rfl) ?_
  refine lv_iconst (v := 0) hx hb dX12_cashIn_1 (by decide) ?_
  refine lv_bipush (v := 24) hx hb dX12_cashIn_2 (by decide) ?_
  obtain ⟨q1, c1, h⟩ := x_call h
  refine xCallH (w2 := ThlW cA ad hr h0 s0) (xRunS (n := 3) (As := [.int a1, .int 0, .int 24]) (rest := []) ⟨hx, hb, hml, hown, hts⟩ (kX12_isWithin l D cA  _ N a1 0 24 q1 c1) qco_X12_isWithin qml_X12_217 qst_X12_isWithin qini_X12 (by decide +kernel) (by rw [← erm]; rfl) hK hP hD [] rfl rfl rfl rfl hl.1 rfl (lv_room (Nat.le_of_ble_eq_true rfl)) dX12_cashIn_4 ⟨Nat.zero_le _, Nat.zero_le _⟩) hP hD hS hA [] rfl rfl (xselH [none, none, none, none, none, none, none, none, none, none, none, none, none, none, none, none, none, none, none, none, none, none, none, none, none, none, none, none, none, none, none, none, none, none, none, none, none, none, none, none, none, none, none, none, none, none, none, none, none, none, none, none, none, none, none, none, none, none, none, none, none] rfl (by decide +kernel)) (fun H locs hP hD hS => ?_)
  refine lv_if_ne (tgt := 21) hx hb dX12_cashIn_7 (by decide) (fun c2 => ?_) (fun c2 => ?_)
  · have h := x_f h c2
    refine lv_aload_n hx hb dX12_cashIn_21 rfl (lv_at hl 0 rfl) ?_
    refine va_get (D := D) (ci := 11) (v := .ref (h0 1)) (C := RX12) (T := TX12) (N := 10) hx hb hts iX12 hown hK hP 0 rfl rfl 0 (by decide) (hts _ qfl_X12_10) (fun _ h9 => h9) rfl dX12_cashIn_22 ?_
    refine va_getN (D := D) (ci := 4) (v := .ref (h0 2)) (C := RX3) (T := TX3) (N := 7) hx hb hts iX3 hown hK hP 1 rfl rfl 0 (by decide) (hN.use qfn_X12_51) (fun _ h9 => h9) rfl dX12_cashIn_25 ?_
    refine lv_iconst (v := 0) hx hb dX12_cashIn_28 (by decide) ?_
    obtain ⟨q3, c3, h⟩ := x_call h
    refine xCallH (w2 := ThlW cA ad hr h0 s0) (zRunV (n := 1) (As := [.int 0]) (rest := []) ⟨hx, hb, hml, hown, hts⟩ (kX1_balanceAt l D cA ad (fun k => h0 (k + 2)) _ N 0 s0.1.1 q3 c3) qco_X1_balanceAt qml_X12_196 qin_X1_balanceAt qse_X1_balanceAt qini_X1 (by decide +kernel) (by rw [← erm]; rfl) hN hE hS hA hK hP hD [2, 3, 4, 5, 6] rfl rfl (q0 := 0) rfl rfl rfl rfl rfl hl.1 rfl (lv_room (Nat.le_of_ble_eq_true rfl)) dX12_cashIn_29 ⟨Nat.zero_le _, Nat.zero_le _⟩) hP hD hS hA [2, 3, 4, 5, 6] rfl rfl (xselH [none, none, some 0, some 1, some 2, some 3, some 4, none, none, none, none, none, none, none, none, none, none, none, none, none, none, none, none, none, none, none, none, none, none, none, none, none, none, none, none, none, none, none, none, none, none, none, none, none, none, none, none, none, none, none, none, none, none, none, none, none, none, none, none, none, none] rfl (by decide +kernel)) (fun H locs hP hD hS => ?_)
    refine lv_aload_n hx hb dX12_cashIn_32 rfl (lv_at hl 0 rfl) ?_
    refine va_get (D := D) (ci := 11) (v := .ref (h0 1)) (C := RX12) (T := TX12) (N := 10) hx hb hts iX12 hown hK hP 0 rfl rfl 0 (by decide) (hts _ qfl_X12_10) (fun _ h9 => h9) rfl dX12_cashIn_33 ?_
    refine va_getN (D := D) (ci := 4) (v := .ref (h0 13)) (C := RX3) (T := TX3) (N := 7) hx hb hts iX3 hown hK hP 1 rfl rfl 2 (by decide) (hN.use qfn_X12_101) (fun _ h9 => h9) rfl dX12_cashIn_36 ?_
    refine lv_iconst (v := 0) hx hb dX12_cashIn_39 (by decide) ?_
    refine lv_iload_n hx hb dX12_cashIn_40 rfl (lv_at hl 1 rfl) ?_
    obtain ⟨q4, c4, h⟩ := x_call h
    refine xCallH (w2 := ThlW cA ad hr h0 s0) (zRunV (n := 2) (As := [.int 0, .int a1]) (rest := [.long q3]) ⟨hx, hb, hml, hown, hts⟩ (kX8_netDebits l D cA ad (fun k => h0 (k + 13)) _ N 0 a1 s0.1.2.2.1 q4 c4) qco_X8_netDebits qml_X12_274 qin_X8_netDebits qse_X8_netDebits qini_X8 (by decide +kernel) (by rw [← erm]; rfl) hN hE hS hA hK hP hD [13, 14, 15, 16, 17, 18, 19] rfl rfl (q0 := 0) rfl rfl rfl rfl rfl hl.1 rfl (lv_room (Nat.le_of_ble_eq_true rfl)) dX12_cashIn_41 ⟨Nat.zero_le _, Nat.zero_le _⟩) hP hD hS hA [13, 14, 15, 16, 17, 18, 19] rfl rfl (xselH [none, none, none, none, none, none, none, none, none, none, none, none, none, some 0, some 1, some 2, some 3, some 4, some 5, some 6, none, none, none, none, none, none, none, none, none, none, none, none, none, none, none, none, none, none, none, none, none, none, none, none, none, none, none, none, none, none, none, none, none, none, none, none, none, none, none, none, none] rfl (by decide +kernel)) (fun H locs hP hD hS => ?_)
    refine lv_ladd hx hb dX12_cashIn_44 ?_
    have h := Option.some.inj h
    subst h
    refine W.widen (k := 1) (n := 6) (Nat.le_of_ble_eq_true rfl) (Nat.le_of_ble_eq_true rfl) ?_
    exact vLret hx hb hr9 hlocks hP hK hD hS dX12_cashIn_45
  · have h := x_t h c2
    have h := Option.some.inj h
    subst h
    exact vThrowW (x := 3) (text := "the number of hours is out of range") (is := 271) hx hb hl9 hown hts hN hV hA (by decide) xThr3 xThg3 (by decide +kernel) hK hP hD hS (hl.1.trans hml.symm) dX12_cashIn_10 dX12_cashIn_13 dX12_cashIn_14 dX12_cashIn_17 dX12_cashIn_20 htab (by rw [← erm]; rfl) hlocks (by decide) (Nat.le_of_ble_eq_true rfl) (Nat.le_of_ble_eq_true rfl)
def fX12_costOf (N : Nat) (a1 : Int32) (s0 : ThlS) : Option (Nat × Int32) :=
  xcall (fX11_faultOfCount N a1 s0.1.2.2.2.1) fun q1 =>
  xcall (fX12_refuse N q1) fun q2 =>
  xthr q2 (some (q2, 0)) <|
  xcall (fX11_costByLots N a1 s0.1.2.2.2.1) fun q3 =>
  some (0, q3)
set_option maxRecDepth 100000 in
set_option maxHeartbeats 4000000 in
theorem kX12_costOf (l : Launch) (hl9 : l.stackTraces = false) (D : va_G) (cA : Nat → ClassId) (ad : Nat → Nat) (hr : Nat → Nat → Nat) (h0 : Nat → Nat) (sz N : Nat) (a1 : Int32) (s0 : ThlS) (q : Nat × Int32) (h : fX12_costOf N a1 s0 = some q) : vM l yX12_costOf cX12_costOf 2 (some .int) ({ frames := 7, cells := 1, slots := 6, locals := 110 }) D cA ad (ThlW cA ad hr h0 s0) sz [.ref (h0 0), .int a1] q.1 (some (.int q.2)) (ThlW cA ad hr h0 s0) 1 6 := by
  generalize erm : ({ frames := 7, cells := 1, slots := 6, locals := 110 } : Room) = rm
  refine vMet (by decide) (Nat.le_of_ble_eq_true rfl) ?_
  intro p e s m below meth c hx hb hr9 hlocks hml hts hown hin hK hP A eA hD hS hA hsz hN hE hV htab ls hl
  have hl : lv_has ls 2 [(0, .ref (h0 0)), (1, .int a1)] := hl
  clear eA
  rw [fX12_costOf] at h
  refine lv_aload_n hx hb dX12_costOf_0 rfl (lv_at hl 0 rfl) ?_
  refine va_get (D := D) (ci := 11) (v := .ref (h0 1)) (C := RX12) (T := TX12) (N := 10) hx hb hts iX12 hown hK hP 0 rfl rfl 0 (by decide) (hts _ qfl_X12_10) (fun _ h9 => h9) rfl dX12_costOf_1 ?_
  refine va_getN (D := D) (ci := 4) (v := .ref (h0 20)) (C := RX3) (T := TX3) (N := 7) hx hb hts iX3 hown hK hP 1 rfl rfl 3 (by decide) (hN.use qfn_X12_133) (fun _ h9 => h9) rfl dX12_costOf_4 ?_
  refine lv_iload_n hx hb dX12_costOf_7 rfl (lv_at hl 1 rfl) ?_
  obtain ⟨q1, c1, h⟩ := x_call h
  refine xCallH (w2 := ThlW cA ad hr h0 s0) (zRunV (n := 1) (As := [.int a1]) (rest := []) ⟨hx, hb, hml, hown, hts⟩ (kX11_faultOfCount l D cA ad (fun k => h0 (k + 20)) _ N a1 s0.1.2.2.2.1 q1 c1) qco_X11_faultOfCount qml_X12_282 qin_X11_faultOfCount qse_X11_faultOfCount qini_X11 (by decide +kernel) (by rw [← erm]; rfl) hN hE hS hA hK hP hD [20, 21, 22] rfl rfl (q0 := 0) rfl rfl rfl rfl rfl hl.1 rfl (lv_room (Nat.le_of_ble_eq_true rfl)) dX12_costOf_8 ⟨Nat.zero_le _, Nat.zero_le _⟩) hP hD hS hA [20, 21, 22] rfl rfl (xselH [none, none, none, none, none, none, none, none, none, none, none, none, none, none, none, none, none, none, none, none, some 0, some 1, some 2, none, none, none, none, none, none, none, none, none, none, none, none, none, none, none, none, none, none, none, none, none, none, none, none, none, none, none, none, none, none, none, none, none, none, none, none, none, none] rfl (by decide +kernel)) (fun H locs hP hD hS => ?_)
  obtain ⟨q2, c2, h⟩ := x_call h
  refine vCall (w2 := ThlW cA ad hr h0 s0) (vRunS (n := 1) (As := [.ref (ad q1)]) (rest := []) ⟨hx, hb, hml, hown, hts⟩ (kX12_refuse l hl9 D cA ad  _ N q1 q2 c2) qco_X12_refuse qml_X12_61 qst_X12_refuse qini_X12 (by decide +kernel) (by rw [← erm]; rfl) hN hE hV hS hA hK hP hD [] rfl rfl rfl rfl hl.1 rfl (lv_room (Nat.le_of_ble_eq_true rfl)) dX12_costOf_11 ⟨by rw [← erm]; exact Nat.le_of_ble_eq_true rfl, by rw [← erm]; exact Nat.le_of_ble_eq_true rfl⟩) hP hD hS hA [] rfl rfl (xselH [none, none, none, none, none, none, none, none, none, none, none, none, none, none, none, none, none, none, none, none, none, none, none, none, none, none, none, none, none, none, none, none, none, none, none, none, none, none, none, none, none, none, none, none, none, none, none, none, none, none, none, none, none, none, none, none, none, none, none, none, none] rfl (by decide +kernel)) (fun x2 q9 ce H locs hP hD hS hc1 hc2 hc3 => ?_) (fun x2 H locs hP hD hS => ?_)
  · have h := x_th1 h x2
    have h := Option.some.inj h
    subst h
    exact vOut (x := q2) htab hlocks hK hP hD hS x2 hc1 hc2 hc3 (Nat.le_of_ble_eq_true rfl) (Nat.le_of_ble_eq_true rfl)
  have h := x_th0 h x2
  refine lv_aload_n hx hb dX12_costOf_14 rfl (lv_at hl 0 rfl) ?_
  refine va_get (D := D) (ci := 11) (v := .ref (h0 1)) (C := RX12) (T := TX12) (N := 10) hx hb hts iX12 hown hK hP 0 rfl rfl 0 (by decide) (hts _ qfl_X12_10) (fun _ h9 => h9) rfl dX12_costOf_15 ?_
  refine va_getN (D := D) (ci := 4) (v := .ref (h0 20)) (C := RX3) (T := TX3) (N := 7) hx hb hts iX3 hown hK hP 1 rfl rfl 3 (by decide) (hN.use qfn_X12_133) (fun _ h9 => h9) rfl dX12_costOf_18 ?_
  refine lv_iload_n hx hb dX12_costOf_21 rfl (lv_at hl 1 rfl) ?_
  obtain ⟨q3, c3, h⟩ := x_call h
  refine xCallH (w2 := ThlW cA ad hr h0 s0) (zRunV (n := 1) (As := [.int a1]) (rest := []) ⟨hx, hb, hml, hown, hts⟩ (kX11_costByLots l D cA ad (fun k => h0 (k + 20)) _ N a1 s0.1.2.2.2.1 q3 c3) qco_X11_costByLots qml_X12_285 qin_X11_costByLots qse_X11_costByLots qini_X11 (by decide +kernel) (by rw [← erm]; rfl) hN hE hS hA hK hP hD [20, 21, 22] rfl rfl (q0 := 0) rfl rfl rfl rfl rfl hl.1 rfl (lv_room (Nat.le_of_ble_eq_true rfl)) dX12_costOf_22 ⟨by rw [← erm]; exact Nat.le_of_ble_eq_true rfl, by rw [← erm]; exact Nat.le_of_ble_eq_true rfl⟩) hP hD hS hA [20, 21, 22] rfl rfl (xselH [none, none, none, none, none, none, none, none, none, none, none, none, none, none, none, none, none, none, none, none, some 0, some 1, some 2, none, none, none, none, none, none, none, none, none, none, none, none, none, none, none, none, none, none, none, none, none, none, none, none, none, none, none, none, none, none, none, none, none, none, none, none, none, none] rfl (by decide +kernel)) (fun H locs hP hD hS => ?_)
  have h := Option.some.inj h
  subst h
  refine W.widen (k := 1) (n := 6) (Nat.le_of_ble_eq_true rfl) (Nat.le_of_ble_eq_true rfl) ?_
  exact vIret hx hb hr9 hlocks hP hK hD hS dX12_costOf_25
def fX12_costByCostumes (N : Nat) (a1 : Int32) (s0 : ThlS) : Option (Nat × Int32) :=
  xcall (fX11_faultOfCount N a1 s0.1.2.2.2.1) fun q1 =>
  xcall (fX12_refuse N q1) fun q2 =>
  xthr q2 (some (q2, 0)) <|
  xcall (fX11_costOneByOne N a1 s0.1.2.2.2.1) fun q3 =>
  some (0, q3)
set_option maxRecDepth 100000 in
set_option maxHeartbeats 4000000 in
theorem kX12_costByCostumes (l : Launch) (hl9 : l.stackTraces = false) (D : va_G) (cA : Nat → ClassId) (ad : Nat → Nat) (hr : Nat → Nat → Nat) (h0 : Nat → Nat) (sz N : Nat) (a1 : Int32) (s0 : ThlS) (q : Nat × Int32) (h : fX12_costByCostumes N a1 s0 = some q) : vM l yX12_costByCostumes cX12_costByCostumes 2 (some .int) ({ frames := 7, cells := 1, slots := 6, locals := 110 }) D cA ad (ThlW cA ad hr h0 s0) sz [.ref (h0 0), .int a1] q.1 (some (.int q.2)) (ThlW cA ad hr h0 s0) 1 6 := by
  generalize erm : ({ frames := 7, cells := 1, slots := 6, locals := 110 } : Room) = rm
  refine vMet (by decide) (Nat.le_of_ble_eq_true rfl) ?_
  intro p e s m below meth c hx hb hr9 hlocks hml hts hown hin hK hP A eA hD hS hA hsz hN hE hV htab ls hl
  have hl : lv_has ls 2 [(0, .ref (h0 0)), (1, .int a1)] := hl
  clear eA
  rw [fX12_costByCostumes] at h
  refine lv_aload_n hx hb dX12_costByCostumes_0 rfl (lv_at hl 0 rfl) ?_
  refine va_get (D := D) (ci := 11) (v := .ref (h0 1)) (C := RX12) (T := TX12) (N := 10) hx hb hts iX12 hown hK hP 0 rfl rfl 0 (by decide) (hts _ qfl_X12_10) (fun _ h9 => h9) rfl dX12_costByCostumes_1 ?_
  refine va_getN (D := D) (ci := 4) (v := .ref (h0 20)) (C := RX3) (T := TX3) (N := 7) hx hb hts iX3 hown hK hP 1 rfl rfl 3 (by decide) (hN.use qfn_X12_133) (fun _ h9 => h9) rfl dX12_costByCostumes_4 ?_
  refine lv_iload_n hx hb dX12_costByCostumes_7 rfl (lv_at hl 1 rfl) ?_
  obtain ⟨q1, c1, h⟩ := x_call h
  refine xCallH (w2 := ThlW cA ad hr h0 s0) (zRunV (n := 1) (As := [.int a1]) (rest := []) ⟨hx, hb, hml, hown, hts⟩ (kX11_faultOfCount l D cA ad (fun k => h0 (k + 20)) _ N a1 s0.1.2.2.2.1 q1 c1) qco_X11_faultOfCount qml_X12_282 qin_X11_faultOfCount qse_X11_faultOfCount qini_X11 (by decide +kernel) (by rw [← erm]; rfl) hN hE hS hA hK hP hD [20, 21, 22] rfl rfl (q0 := 0) rfl rfl rfl rfl rfl hl.1 rfl (lv_room (Nat.le_of_ble_eq_true rfl)) dX12_costByCostumes_8 ⟨Nat.zero_le _, Nat.zero_le _⟩) hP hD hS hA [20, 21, 22] rfl rfl (xselH [none, none, none, none, none, none, none, none, none, none, none, none, none, none, none, none, none, none, none, none, some 0, some 1, some 2, none, none, none, none, none, none, none, none, none, none, none, none, none, none, none, none, none, none, none, none, none, none, none, none, none, none, none, none, none, none, none, none, none, none, none, none, none, none] rfl (by decide +kernel)) (fun H locs hP hD hS => ?_)
  obtain ⟨q2, c2, h⟩ := x_call h
  refine vCall (w2 := ThlW cA ad hr h0 s0) (vRunS (n := 1) (As := [.ref (ad q1)]) (rest := []) ⟨hx, hb, hml, hown, hts⟩ (kX12_refuse l hl9 D cA ad  _ N q1 q2 c2) qco_X12_refuse qml_X12_61 qst_X12_refuse qini_X12 (by decide +kernel) (by rw [← erm]; rfl) hN hE hV hS hA hK hP hD [] rfl rfl rfl rfl hl.1 rfl (lv_room (Nat.le_of_ble_eq_true rfl)) dX12_costByCostumes_11 ⟨by rw [← erm]; exact Nat.le_of_ble_eq_true rfl, by rw [← erm]; exact Nat.le_of_ble_eq_true rfl⟩) hP hD hS hA [] rfl rfl (xselH [none, none, none, none, none, none, none, none, none, none, none, none, none, none, none, none, none, none, none, none, none, none, none, none, none, none, none, none, none, none, none, none, none, none, none, none, none, none, none, none, none, none, none, none, none, none, none, none, none, none, none, none, none, none, none, none, none, none, none, none, none] rfl (by decide +kernel)) (fun x2 q9 ce H locs hP hD hS hc1 hc2 hc3 => ?_) (fun x2 H locs hP hD hS => ?_)
  · have h := x_th1 h x2
    have h := Option.some.inj h
    subst h
    exact vOut (x := q2) htab hlocks hK hP hD hS x2 hc1 hc2 hc3 (Nat.le_of_ble_eq_true rfl) (Nat.le_of_ble_eq_true rfl)
  have h := x_th0 h x2
  refine lv_aload_n hx hb dX12_costByCostumes_14 rfl (lv_at hl 0 rfl) ?_
  refine va_get (D := D) (ci := 11) (v := .ref (h0 1)) (C := RX12) (T := TX12) (N := 10) hx hb hts iX12 hown hK hP 0 rfl rfl 0 (by decide) (hts _ qfl_X12_10) (fun _ h9 => h9) rfl dX12_costByCostumes_15 ?_
  refine va_getN (D := D) (ci := 4) (v := .ref (h0 20)) (C := RX3) (T := TX3) (N := 7) hx hb hts iX3 hown hK hP 1 rfl rfl 3 (by decide) (hN.use qfn_X12_133) (fun _ h9 => h9) rfl dX12_costByCostumes_18 ?_
  refine lv_iload_n hx hb dX12_costByCostumes_21 rfl (lv_at hl 1 rfl) ?_
  obtain ⟨q3, c3, h⟩ := x_call h
  refine xCallH (w2 := ThlW cA ad hr h0 s0) (zRunV (n := 1) (As := [.int a1]) (rest := []) ⟨hx, hb, hml, hown, hts⟩ (kX11_costOneByOne l D cA ad (fun k => h0 (k + 20)) _ N a1 s0.1.2.2.2.1 q3 c3) qco_X11_costOneByOne qml_X12_288 qin_X11_costOneByOne qse_X11_costOneByOne qini_X11 (by decide +kernel) (by rw [← erm]; rfl) hN hE hS hA hK hP hD [20, 21, 22] rfl rfl (q0 := 0) rfl rfl rfl rfl rfl hl.1 rfl (lv_room (Nat.le_of_ble_eq_true rfl)) dX12_costByCostumes_22 ⟨by rw [← erm]; exact Nat.le_of_ble_eq_true rfl, by rw [← erm]; exact Nat.le_of_ble_eq_true rfl⟩) hP hD hS hA [20, 21, 22] rfl rfl (xselH [none, none, none, none, none, none, none, none, none, none, none, none, none, none, none, none, none, none, none, none, some 0, some 1, some 2, none, none, none, none, none, none, none, none, none, none, none, none, none, none, none, none, none, none, none, none, none, none, none, none, none, none, none, none, none, none, none, none, none, none, none, none, none, none] rfl (by decide +kernel)) (fun H locs hP hD hS => ?_)
  have h := Option.some.inj h
  subst h
  refine W.widen (k := 1) (n := 6) (Nat.le_of_ble_eq_true rfl) (Nat.le_of_ble_eq_true rfl) ?_
  exact vIret hx hb hr9 hlocks hP hK hD hS dX12_costByCostumes_25
def fX12_billAt (N : Nat) (a1 : Int32) (s0 : ThlS) : Option (Nat × Int32) :=
  xcall (fX12_isWithin N a1 0 (s0.1.2.2.2.2.1.2.2.1 - 1)) fun q1 =>
  if q1 = 0 then
    some (2, 0)
  else
    xcall (fX2_idAt N a1 s0.1.2.2.2.2.1) fun q3 =>
    some (0, q3)
set_option maxRecDepth 100000 in
set_option maxHeartbeats 4000000 in
theorem kX12_billAt (l : Launch) (hl9 : l.stackTraces = false) (D : va_G) (cA : Nat → ClassId) (ad : Nat → Nat) (hr : Nat → Nat → Nat) (h0 : Nat → Nat) (sz N : Nat) (a1 : Int32) (s0 : ThlS) (q : Nat × Int32) (h : fX12_billAt N a1 s0 = some q) : vM l yX12_billAt cX12_billAt 2 (some .int) ({ frames := 6, cells := 1, slots := 6, locals := 90 }) D cA ad (ThlW cA ad hr h0 s0) sz [.ref (h0 0), .int a1] q.1 (some (.int q.2)) (ThlW cA ad hr h0 s0) 1 6 := by
  generalize erm : ({ frames := 6, cells := 1, slots := 6, locals := 90 } : Room) = rm
  refine vMet (by decide) (Nat.le_of_ble_eq_true rfl) ?_
  intro p e s m below meth c hx hb hr9 hlocks hml hts hown hin hK hP A eA hD hS hA hsz hN hE hV htab ls hl
  have hl : lv_has ls 2 [(0, .ref (h0 0)), (1, .int a1)] := hl
  clear eA
  rw [fX12_billAt] at h
  refine lv_iload_n hx hb dX12_billAt_0 rfl (lv_at hl 1 rfl) ?_
  refine lv_iconst (v := 0) hx hb dX12_billAt_1 (by decide) ?_
  refine lv_aload_n hx hb dX12_billAt_2 rfl (lv_at hl 0 rfl) ?_
  refine va_get (D := D) (ci := 11) (v := .ref (h0 1)) (C := RX12) (T := TX12) (N := 10) hx hb hts iX12 hown hK hP 0 rfl rfl 0 (by decide) (hts _ qfl_X12_10) (fun _ h9 => h9) rfl dX12_billAt_3 ?_
  refine va_getN (D := D) (ci := 4) (v := .ref (h0 23)) (C := RX3) (T := TX3) (N := 7) hx hb hts iX3 hown hK hP 1 rfl rfl 4 (by decide) (hN.use qfn_X12_145) (fun _ h9 => h9) rfl dX12_billAt_6 ?_
  refine va_getN (D := D) (ci := 3) (v := .int s0.1.2.2.2.2.1.2.2.1) (C := RX2) (T := TX2) (N := 4) hx hb hts iX2 hown hK hP 23 rfl rfl 2 (by decide) (hN.use qfn_X12_293) (fun _ h9 => h9) rfl dX12_billAt_9 ?_
  refine lv_iconst (v := 1) hx hb dX12_billAt_12 (by decide) ?_
  refine lv_isub hx hb dX12_billAt_13 ?_
  obtain ⟨q1, c1, h⟩ := x_call h
  refine xCallH (w2 := ThlW cA ad hr h0 s0) (xRunS (n := 3) (As := [.int a1, .int 0, .int (s0.1.2.2.2.2.1.2.2.1 - 1)]) (rest := []) ⟨hx, hb, hml, hown, hts⟩ (kX12_isWithin l D cA  _ N a1 0 (s0.1.2.2.2.2.1.2.2.1 - 1) q1 c1) qco_X12_isWithin qml_X12_217 qst_X12_isWithin qini_X12 (by decide +kernel) (by rw [← erm]; rfl) hK hP hD [] rfl rfl rfl rfl hl.1 rfl (lv_room (Nat.le_of_ble_eq_true rfl)) dX12_billAt_14 ⟨Nat.zero_le _, Nat.zero_le _⟩) hP hD hS hA [] rfl rfl (xselH [none, none, none, none, none, none, none, none, none, none, none, none, none, none, none, none, none, none, none, none, none, none, none, none, none, none, none, none, none, none, none, none, none, none, none, none, none, none, none, none, none, none, none, none, none, none, none, none, none, none, none, none, none, none, none, none, none, none, none, none, none] rfl (by decide +kernel)) (fun H locs hP hD hS => ?_)
  refine lv_if_ne (tgt := 30) hx hb dX12_billAt_17 (by decide) (fun c2 => ?_) (fun c2 => ?_)
  · have h := x_f h c2
    refine lv_aload_n hx hb dX12_billAt_30 rfl (lv_at hl 0 rfl) ?_
    refine va_get (D := D) (ci := 11) (v := .ref (h0 1)) (C := RX12) (T := TX12) (N := 10) hx hb hts iX12 hown hK hP 0 rfl rfl 0 (by decide) (hts _ qfl_X12_10) (fun _ h9 => h9) rfl dX12_billAt_31 ?_
    refine va_getN (D := D) (ci := 4) (v := .ref (h0 23)) (C := RX3) (T := TX3) (N := 7) hx hb hts iX3 hown hK hP 1 rfl rfl 4 (by decide) (hN.use qfn_X12_145) (fun _ h9 => h9) rfl dX12_billAt_34 ?_
    refine lv_iload_n hx hb dX12_billAt_37 rfl (lv_at hl 1 rfl) ?_
    obtain ⟨q3, c3, h⟩ := x_call h
    refine xCallH (w2 := ThlW cA ad hr h0 s0) (zRunV (n := 1) (As := [.int a1]) (rest := []) ⟨hx, hb, hml, hown, hts⟩ (kX2_idAt l D cA ad (fun k => h0 (k + 23)) _ N a1 s0.1.2.2.2.2.1 q3 c3) qco_X2_idAt qml_X12_294 qin_X2_idAt qse_X2_idAt qini_X2 (by decide +kernel) (by rw [← erm]; rfl) hN hE hS hA hK hP hD [23, 24, 25] rfl rfl (q0 := 0) rfl rfl rfl rfl rfl hl.1 rfl (lv_room (Nat.le_of_ble_eq_true rfl)) dX12_billAt_38 ⟨Nat.zero_le _, Nat.zero_le _⟩) hP hD hS hA [23, 24, 25] rfl rfl (xselH [none, none, none, none, none, none, none, none, none, none, none, none, none, none, none, none, none, none, none, none, none, none, none, some 0, some 1, some 2, none, none, none, none, none, none, none, none, none, none, none, none, none, none, none, none, none, none, none, none, none, none, none, none, none, none, none, none, none, none, none, none, none, none, none] rfl (by decide +kernel)) (fun H locs hP hD hS => ?_)
    have h := Option.some.inj h
    subst h
    refine W.widen (k := 1) (n := 6) (Nat.le_of_ble_eq_true rfl) (Nat.le_of_ble_eq_true rfl) ?_
    exact vIret hx hb hr9 hlocks hP hK hD hS dX12_billAt_41
  · have h := x_t h c2
    have h := Option.some.inj h
    subst h
    exact vThrowN (n := 26) (text := "no such place") (is := 238) hx hb hl9 hown hts hN hV (by decide +kernel) hK hP hD hS (hl.1.trans hml.symm) dX12_billAt_20 dX12_billAt_23 (Or.inl ⟨rfl, dX12_billAt_24⟩) dX12_billAt_26 dX12_billAt_29 htab (by rw [← erm]; rfl) hlocks (Nat.le_of_ble_eq_true rfl) (Nat.le_of_ble_eq_true rfl)
def fX12_checkedPlaceOf (N : Nat) (a1 : Int32) (s0 : ThlS) : Option (Nat × Int32) :=
  xcall (fX2_placeOf N a1 s0.1.2.2.2.2.1) fun q1 =>
  if q1 = (-1) then
    some (2, 0)
  else
    some (0, q1)
set_option maxRecDepth 100000 in
set_option maxHeartbeats 4000000 in
theorem kX12_checkedPlaceOf (l : Launch) (hl9 : l.stackTraces = false) (D : va_G) (cA : Nat → ClassId) (ad : Nat → Nat) (hr : Nat → Nat → Nat) (h0 : Nat → Nat) (sz N : Nat) (a1 : Int32) (s0 : ThlS) (q : Nat × Int32) (h : fX12_checkedPlaceOf N a1 s0 = some q) : vM l yX12_checkedPlaceOf cX12_checkedPlaceOf 3 (some .int) ({ frames := 6, cells := 1, slots := 6, locals := 90 }) D cA ad (ThlW cA ad hr h0 s0) sz [.ref (h0 0), .int a1] q.1 (some (.int q.2)) (ThlW cA ad hr h0 s0) 1 6 := by
  generalize erm : ({ frames := 6, cells := 1, slots := 6, locals := 90 } : Room) = rm
  refine vMet (by decide) (Nat.le_of_ble_eq_true rfl) ?_
  intro p e s m below meth c hx hb hr9 hlocks hml hts hown hin hK hP A eA hD hS hA hsz hN hE hV htab ls hl
  have hl : lv_has ls 3 [(0, .ref (h0 0)), (1, .int a1)] := hl
  clear eA
  rw [fX12_checkedPlaceOf] at h
  refine lv_aload_n hx hb dX12_checkedPlaceOf_0 rfl (lv_at hl 0 rfl) ?_
  refine va_get (D := D) (ci := 11) (v := .ref (h0 1)) (C := RX12) (T := TX12) (N := 10) hx hb hts iX12 hown hK hP 0 rfl rfl 0 (by decide) (hts _ qfl_X12_10) (fun _ h9 => h9) rfl dX12_checkedPlaceOf_1 ?_
  refine va_getN (D := D) (ci := 4) (v := .ref (h0 23)) (C := RX3) (T := TX3) (N := 7) hx hb hts iX3 hown hK hP 1 rfl rfl 4 (by decide) (hN.use qfn_X12_145) (fun _ h9 => h9) rfl dX12_checkedPlaceOf_4 ?_
  refine lv_iload_n hx hb dX12_checkedPlaceOf_7 rfl (lv_at hl 1 rfl) ?_
  obtain ⟨q1, c1, h⟩ := x_call h
  refine xCallH (w2 := ThlW cA ad hr h0 s0) (zRunV (n := 1) (As := [.int a1]) (rest := []) ⟨hx, hb, hml, hown, hts⟩ (kX2_placeOf l D cA ad (fun k => h0 (k + 23)) _ N a1 s0.1.2.2.2.2.1 q1 c1) qco_X2_placeOf qml_X12_450 qin_X2_placeOf qse_X2_placeOf qini_X2 (by decide +kernel) (by rw [← erm]; rfl) hN hE hS hA hK hP hD [23, 24, 25] rfl rfl (q0 := 0) rfl rfl rfl rfl rfl hl.1 rfl (lv_room (Nat.le_of_ble_eq_true rfl)) dX12_checkedPlaceOf_8 ⟨Nat.zero_le _, Nat.zero_le _⟩) hP hD hS hA [23, 24, 25] rfl rfl (xselH [none, none, none, none, none, none, none, none, none, none, none, none, none, none, none, none, none, none, none, none, none, none, none, some 0, some 1, some 2, none, none, none, none, none, none, none, none, none, none, none, none, none, none, none, none, none, none, none, none, none, none, none, none, none, none, none, none, none, none, none, none, none, none, none] rfl (by decide +kernel)) (fun H locs hP hD hS => ?_)
  refine lv_istore_n (lv' := [(2, .int q1), (0, .ref (h0 0)), (1, .int a1)]) hx hb dX12_checkedPlaceOf_11 rfl hl (by decide) rfl (fun ls hl => ?_)
  refine lv_iload_n hx hb dX12_checkedPlaceOf_12 rfl (lv_at hl 0 rfl) ?_
  refine lv_iconst (v := (-1)) hx hb dX12_checkedPlaceOf_13 (by decide) ?_
  refine lv_icmp_ne (tgt := 28) hx hb dX12_checkedPlaceOf_14 (by decide) (fun c2 => ?_) (fun c2 => ?_)
  · have h := x_f h c2
    refine lv_iload_n hx hb dX12_checkedPlaceOf_28 rfl (lv_at hl 0 rfl) ?_
    have h := Option.some.inj h
    subst h
    refine W.widen (k := 1) (n := 6) (Nat.le_of_ble_eq_true rfl) (Nat.le_of_ble_eq_true rfl) ?_
    exact vIret hx hb hr9 hlocks hP hK hD hS dX12_checkedPlaceOf_29
  · have h := x_t h c2
    have h := Option.some.inj h
    subst h
    exact vThrowN (n := 24) (text := "no such bill is open") (is := 453) hx hb hl9 hown hts hN hV (by decide +kernel) hK hP hD hS (hl.1.trans hml.symm) dX12_checkedPlaceOf_17 dX12_checkedPlaceOf_20 (Or.inr ⟨rfl, dX12_checkedPlaceOf_21⟩) dX12_checkedPlaceOf_24 dX12_checkedPlaceOf_27 htab (by rw [← erm]; rfl) hlocks (Nat.le_of_ble_eq_true rfl) (Nat.le_of_ble_eq_true rfl)
def fX12_openAmount (N : Nat) (a1 : Int32) (s0 : ThlS) : Option (Nat × Int32) :=
  xcall (fX12_checkedPlaceOf N a1 s0) fun q1 =>
  xthr q1.1 (some (q1.1, 0)) <|
  xcall (fX2_amountAt N q1.2 s0.1.2.2.2.2.1) fun q2 =>
  some (0, q2)
set_option maxRecDepth 100000 in
set_option maxHeartbeats 4000000 in
theorem kX12_openAmount (l : Launch) (hl9 : l.stackTraces = false) (D : va_G) (cA : Nat → ClassId) (ad : Nat → Nat) (hr : Nat → Nat → Nat) (h0 : Nat → Nat) (sz N : Nat) (a1 : Int32) (s0 : ThlS) (q : Nat × Int32) (h : fX12_openAmount N a1 s0 = some q) : vM l yX12_openAmount cX12_openAmount 3 (some .int) ({ frames := 7, cells := 1, slots := 6, locals := 112 }) D cA ad (ThlW cA ad hr h0 s0) sz [.ref (h0 0), .int a1] q.1 (some (.int q.2)) (ThlW cA ad hr h0 s0) 1 6 := by
  generalize erm : ({ frames := 7, cells := 1, slots := 6, locals := 112 } : Room) = rm
  refine vMet (by decide) (Nat.le_of_ble_eq_true rfl) ?_
  intro p e s m below meth c hx hb hr9 hlocks hml hts hown hin hK hP A eA hD hS hA hsz hN hE hV htab ls hl
  have hl : lv_has ls 3 [(0, .ref (h0 0)), (1, .int a1)] := hl
  clear eA
  rw [fX12_openAmount] at h
  refine lv_aload_n hx hb dX12_openAmount_0 rfl (lv_at hl 0 rfl) ?_
  refine lv_iload_n hx hb dX12_openAmount_1 rfl (lv_at hl 1 rfl) ?_
  obtain ⟨q1, c1, h⟩ := x_call h
  refine vCall (w2 := ThlW cA ad hr h0 s0) (vRunV (n := 1) (As := [.int a1]) (rest := []) ⟨hx, hb, hml, hown, hts⟩ (kX12_checkedPlaceOf l hl9 D cA ad hr h0 _ N a1 s0 q1 c1) qco_X12_checkedPlaceOf qml_X12_295 qin_X12_checkedPlaceOf qse_X12_checkedPlaceOf qini_X12 (by decide +kernel) (by rw [← erm]; rfl) hN hE hV hS hA hK hP hD [0, 1, 2, 3, 4, 5, 6, 7, 8, 9, 10, 11, 12, 13, 14, 15, 16, 17, 18, 19, 20, 21, 22, 23, 24, 25, 26, 27, 28, 29, 30, 31, 32, 33, 34, 35, 36, 37, 38, 39, 40, 41, 42, 43, 44, 45, 46, 47, 48, 49, 50, 51, 52, 53, 54, 55, 56, 57, 58, 59, 60] rfl rfl (q0 := 0) rfl rfl rfl rfl rfl hl.1 rfl (lv_room (Nat.le_of_ble_eq_true rfl)) dX12_openAmount_2 ⟨by rw [← erm]; exact Nat.le_of_ble_eq_true rfl, by rw [← erm]; exact Nat.le_of_ble_eq_true rfl⟩) hP hD hS hA [0, 1, 2, 3, 4, 5, 6, 7, 8, 9, 10, 11, 12, 13, 14, 15, 16, 17, 18, 19, 20, 21, 22, 23, 24, 25, 26, 27, 28, 29, 30, 31, 32, 33, 34, 35, 36, 37, 38, 39, 40, 41, 42, 43, 44, 45, 46, 47, 48, 49, 50, 51, 52, 53, 54, 55, 56, 57, 58, 59, 60] rfl rfl (xselH [some 0, some 1, some 2, some 3, some 4, some 5, some 6, some 7, some 8, some 9, some 10, some 11, some 12, some 13, some 14, some 15, some 16, some 17, some 18, some 19, some 20, some 21, some 22, some 23, some 24, some 25, some 26, some 27, some 28, some 29, some 30, some 31, some 32, some 33, some 34, some 35, some 36, some 37, some 38, some 39, some 40, some 41, some 42, some 43, some 44, some 45, some 46, some 47, some 48, some 49, some 50, some 51, some 52, some 53, some 54, some 55, some 56, some 57, some 58, some 59, some 60] rfl (by decide +kernel)) (fun x1 q9 ce H locs hP hD hS hc1 hc2 hc3 => ?_) (fun x1 H locs hP hD hS => ?_)
  · have h := x_th1 h x1
    have h := Option.some.inj h
    subst h
    exact vOut (x := q1.1) htab hlocks hK hP hD hS x1 hc1 hc2 hc3 (Nat.le_of_ble_eq_true rfl) (Nat.le_of_ble_eq_true rfl)
  have h := x_th0 h x1
  refine lv_istore_n (lv' := [(2, .int q1.2), (0, .ref (h0 0)), (1, .int a1)]) hx hb dX12_openAmount_5 rfl hl (by decide) rfl (fun ls hl => ?_)
  refine lv_aload_n hx hb dX12_openAmount_6 rfl (lv_at hl 1 rfl) ?_
  refine va_get (D := D) (ci := 11) (v := .ref (h0 1)) (C := RX12) (T := TX12) (N := 10) hx hb hts iX12 hown hK hP 0 rfl rfl 0 (by decide) (hts _ qfl_X12_10) (fun _ h9 => h9) rfl dX12_openAmount_7 ?_
  refine va_getN (D := D) (ci := 4) (v := .ref (h0 23)) (C := RX3) (T := TX3) (N := 7) hx hb hts iX3 hown hK hP 1 rfl rfl 4 (by decide) (hN.use qfn_X12_145) (fun _ h9 => h9) rfl dX12_openAmount_10 ?_
  refine lv_iload_n hx hb dX12_openAmount_13 rfl (lv_at hl 0 rfl) ?_
  obtain ⟨q2, c2, h⟩ := x_call h
  refine xCallH (w2 := ThlW cA ad hr h0 s0) (zRunV (n := 1) (As := [.int q1.2]) (rest := []) ⟨hx, hb, hml, hown, hts⟩ (kX2_amountAt l D cA ad (fun k => h0 (k + 23)) _ N q1.2 s0.1.2.2.2.2.1 q2 c2) qco_X2_amountAt qml_X12_298 qin_X2_amountAt qse_X2_amountAt qini_X2 (by decide +kernel) (by rw [← erm]; rfl) hN hE hS hA hK hP hD [23, 24, 25] rfl rfl (q0 := 0) rfl rfl rfl rfl rfl hl.1 rfl (lv_room (Nat.le_of_ble_eq_true rfl)) dX12_openAmount_14 ⟨by rw [← erm]; exact Nat.le_of_ble_eq_true rfl, by rw [← erm]; exact Nat.le_of_ble_eq_true rfl⟩) hP hD hS hA [23, 24, 25] rfl rfl (xselH [none, none, none, none, none, none, none, none, none, none, none, none, none, none, none, none, none, none, none, none, none, none, none, some 0, some 1, some 2, none, none, none, none, none, none, none, none, none, none, none, none, none, none, none, none, none, none, none, none, none, none, none, none, none, none, none, none, none, none, none, none, none, none, none] rfl (by decide +kernel)) (fun H locs hP hD hS => ?_)
  have h := Option.some.inj h
  subst h
  refine W.widen (k := 1) (n := 6) (Nat.le_of_ble_eq_true rfl) (Nat.le_of_ble_eq_true rfl) ?_
  exact vIret hx hb hr9 hlocks hP hK hD hS dX12_openAmount_17
def fX12_checkAmount (N : Nat) (a0 : Int32)  : Option (Nat) :=
  xcall (fX12_isWithin N a0 1 999) fun q1 =>
  if q1 = 0 then
    some 3
  else
    some 0
set_option maxRecDepth 100000 in
set_option maxHeartbeats 4000000 in
theorem kX12_checkAmount (l : Launch) (hl9 : l.stackTraces = false) (D : va_G) (cA : Nat → ClassId) (ad : Nat → Nat)  (sz N : Nat) (a0 : Int32)  (q : Nat) (h : fX12_checkAmount N a0 = some q) : vM l yX12_checkAmount cX12_checkAmount 1 none ({ frames := 6, cells := 1, slots := 6, locals := 90 }) D cA ad (([] : va_W)) sz [.int a0] q (none) (([] : va_W)) 1 6 := by
  generalize erm : ({ frames := 6, cells := 1, slots := 6, locals := 90 } : Room) = rm
  refine vMet (by decide) (Nat.le_of_ble_eq_true rfl) ?_
  intro p e s m below meth c hx hb hr hlocks hml hts hown hin hK hP A eA hD hS hA hsz hN hE hV htab ls hl
  have hl : lv_has ls 1 [(0, .int a0)] := hl
  clear eA
  rw [fX12_checkAmount] at h
  refine lv_iload_n hx hb dX12_checkAmount_0 rfl (lv_at hl 0 rfl) ?_
  refine lv_iconst (v := 1) hx hb dX12_checkAmount_1 (by decide) ?_
  refine lv_sipush (v := 999) hx hb dX12_checkAmount_2 (by decide) ?_
  obtain ⟨q1, c1, h⟩ := x_call h
  refine xCallH (w2 := ([] : va_W)) (xRunS (n := 3) (As := [.int a0, .int 1, .int 999]) (rest := []) ⟨hx, hb, hml, hown, hts⟩ (kX12_isWithin l D cA  _ N a0 1 999 q1 c1) qco_X12_isWithin qml_X12_217 qst_X12_isWithin qini_X12 (by decide +kernel) (by rw [← erm]; rfl) hK hP hD [] rfl rfl rfl rfl hl.1 rfl (lv_room (Nat.le_of_ble_eq_true rfl)) dX12_checkAmount_5 ⟨Nat.zero_le _, Nat.zero_le _⟩) hP hD hS hA [] rfl rfl (xselH [] rfl (by decide +kernel)) (fun H locs hP hD hS => ?_)
  refine lv_if_ne (tgt := 22) hx hb dX12_checkAmount_8 (by decide) (fun c2 => ?_) (fun c2 => ?_)
  · have h := x_f h c2
    have h := Option.some.inj h
    subst h
    refine W.widen (k := 1) (n := 6) (Nat.le_of_ble_eq_true rfl) (Nat.le_of_ble_eq_true rfl) ?_
    exact vVret hx hb hr hlocks hP hK hD hS dX12_checkAmount_22
  · have h := x_t h c2
    have h := Option.some.inj h
    subst h
    exact vThrowW (x := 3) (text := "the amount is out of range") (is := 455) hx hb hl9 hown hts hN hV hA (by decide) xThr3 xThg3 (by decide +kernel) hK hP hD hS (hl.1.trans hml.symm) dX12_checkAmount_11 dX12_checkAmount_14 dX12_checkAmount_15 dX12_checkAmount_18 dX12_checkAmount_21 htab (by rw [← erm]; rfl) hlocks (by decide) (Nat.le_of_ble_eq_true rfl) (Nat.le_of_ble_eq_true rfl)
def fX12_isMatched (N : Nat) (a1 : Int32) (s0 : ThlS) : Option (Nat × Int32 × ThlS) :=
  xcall (fX12_checkAmount N a1) fun q1 =>
  xthr q1 (some (q1, 0, s0)) <|
  xcall (fX7_canReach N a1 s0.2.2.2.1 s0.1.2.2.2.2.1) fun q2 =>
  xnz (xnar .boolean q2.1) <|
  some (0, q2.1, (Thls3 (Thls0 s0 ((Boos4 s0.1 q2.2.2))) q2.2.1))
set_option maxRecDepth 100000 in
set_option maxHeartbeats 4000000 in
theorem kX12_isMatched (l : Launch) (hl9 : l.stackTraces = false) (D : va_G) (cA : Nat → ClassId) (ad : Nat → Nat) (hr : Nat → Nat → Nat) (h0 : Nat → Nat) (sz N : Nat) (a1 : Int32) (s0 : ThlS) (q : Nat × Int32 × ThlS) (h : fX12_isMatched N a1 s0 = some q) : vM l yX12_isMatched cX12_isMatched 2 (some .boolean) ({ frames := 7, cells := 1, slots := 6, locals := 110 }) D cA ad (ThlW cA ad hr h0 s0) sz [.ref (h0 0), .int a1] q.1 (some (.int q.2.1)) (ThlW cA ad hr h0 q.2.2) 1 6 := by
  generalize erm : ({ frames := 7, cells := 1, slots := 6, locals := 110 } : Room) = rm
  refine vMet (by decide) (Nat.le_of_ble_eq_true rfl) ?_
  intro p e s m below meth c hx hb hr9 hlocks hml hts hown hin hK hP A eA hD hS hA hsz hN hE hV htab ls hl
  have hl : lv_has ls 2 [(0, .ref (h0 0)), (1, .int a1)] := hl
  clear eA
  rw [fX12_isMatched] at h
  refine lv_iload_n hx hb dX12_isMatched_0 rfl (lv_at hl 1 rfl) ?_
  obtain ⟨q1, c1, h⟩ := x_call h
  refine vCall (w2 := ThlW cA ad hr h0 s0) (vRunS (n := 1) (As := [.int a1]) (rest := []) ⟨hx, hb, hml, hown, hts⟩ (kX12_checkAmount l hl9 D cA ad  _ N a1 q1 c1) qco_X12_checkAmount qml_X12_304 qst_X12_checkAmount qini_X12 (by decide +kernel) (by rw [← erm]; rfl) hN hE hV hS hA hK hP hD [] rfl rfl rfl rfl hl.1 rfl (lv_room (Nat.le_of_ble_eq_true rfl)) dX12_isMatched_1 ⟨by rw [← erm]; exact Nat.le_of_ble_eq_true rfl, by rw [← erm]; exact Nat.le_of_ble_eq_true rfl⟩) hP hD hS hA [] rfl rfl (xselH [none, none, none, none, none, none, none, none, none, none, none, none, none, none, none, none, none, none, none, none, none, none, none, none, none, none, none, none, none, none, none, none, none, none, none, none, none, none, none, none, none, none, none, none, none, none, none, none, none, none, none, none, none, none, none, none, none, none, none, none, none] rfl (by decide +kernel)) (fun x1 q9 ce H locs hP hD hS hc1 hc2 hc3 => ?_) (fun x1 H locs hP hD hS => ?_)
  · have h := x_th1 h x1
    have h := Option.some.inj h
    subst h
    exact vOut (x := q1) htab hlocks hK hP hD hS x1 hc1 hc2 hc3 (Nat.le_of_ble_eq_true rfl) (Nat.le_of_ble_eq_true rfl)
  have h := x_th0 h x1
  refine lv_aload_n hx hb dX12_isMatched_4 rfl (lv_at hl 0 rfl) ?_
  refine va_get (D := D) (ci := 11) (v := .ref (h0 53)) (C := RX12) (T := TX12) (N := 10) hx hb hts iX12 hown hK hP 0 rfl rfl 3 (by decide) (hts _ qfl_X12_29) (fun _ h9 => h9) rfl dX12_isMatched_5 ?_
  refine lv_aload_n hx hb dX12_isMatched_8 rfl (lv_at hl 0 rfl) ?_
  refine va_get (D := D) (ci := 11) (v := .ref (h0 1)) (C := RX12) (T := TX12) (N := 10) hx hb hts iX12 hown hK hP 0 rfl rfl 0 (by decide) (hts _ qfl_X12_10) (fun _ h9 => h9) rfl dX12_isMatched_9 ?_
  refine va_getN (D := D) (ci := 4) (v := .ref (h0 23)) (C := RX3) (T := TX3) (N := 7) hx hb hts iX3 hown hK hP 1 rfl rfl 4 (by decide) (hN.use qfn_X12_145) (fun _ h9 => h9) rfl dX12_isMatched_12 ?_
  refine lv_iload_n hx hb dX12_isMatched_15 rfl (lv_at hl 1 rfl) ?_
  obtain ⟨q2, c2, h⟩ := x_call h
  refine xCallH (w2 := ThlW cA ad hr h0 ((Thls3 (Thls0 s0 ((Boos4 s0.1 q2.2.2))) q2.2.1))) (zRunV (n := 2) (As := [.ref (h0 23), .int a1]) (rest := []) ⟨hx, hb, hml, hown, hts⟩ (kX7_canReach l D cA ad (fun k => h0 (k + 53)) (fun k => h0 (k + 23)) _ N a1 s0.2.2.2.1 s0.1.2.2.2.2.1 q2 c2) qco_X7_canReach qml_X12_307 qin_X7_canReach qse_X7_canReach qini_X7 (by decide +kernel) (by rw [← erm]; rfl) hN hE hS hA hK hP hD [53, 54, 55, 23, 24, 25] rfl rfl (q0 := 0) rfl rfl rfl rfl rfl hl.1 rfl (lv_room (Nat.le_of_ble_eq_true rfl)) dX12_isMatched_16 ⟨by rw [← erm]; exact Nat.le_of_ble_eq_true rfl, by rw [← erm]; exact Nat.le_of_ble_eq_true rfl⟩) hP hD hS hA [53, 54, 55, 23, 24, 25] rfl rfl (xselH [none, none, none, none, none, none, none, none, none, none, none, none, none, none, none, none, none, none, none, none, none, none, none, some 3, some 4, some 5, none, none, none, none, none, none, none, none, none, none, none, none, none, none, none, none, none, none, none, none, none, none, none, none, none, none, none, some 0, some 1, some 2, none, none, none, none, none] rfl (by decide +kernel)) (fun H locs hP hD hS => ?_)
  obtain ⟨z3, h⟩ := x_nz h
  have h := Option.some.inj h
  subst h
  refine W.widen (k := 1) (n := 6) (Nat.le_of_ble_eq_true rfl) (Nat.le_of_ble_eq_true rfl) ?_
  exact vZret hx hb hr9 hlocks (xnar_n z3) hP hK hD hS dX12_isMatched_19
def fX12_isMatchedBySets (N : Nat) (a1 : Int32) (s0 : ThlS) : Option (Nat × Int32 × ThlS) :=
  xcall (fX12_checkAmount N a1) fun q1 =>
  xthr q1 (some (q1, 0, s0)) <|
  xcall (fX7_hasSet N a1 s0.2.2.2.1 s0.1.2.2.2.2.1) fun q2 =>
  xnz (xnar .boolean q2.1) <|
  some (0, q2.1, (Thls3 (Thls0 s0 ((Boos4 s0.1 q2.2.2))) q2.2.1))
set_option maxRecDepth 100000 in
set_option maxHeartbeats 4000000 in
theorem kX12_isMatchedBySets (l : Launch) (hl9 : l.stackTraces = false) (D : va_G) (cA : Nat → ClassId) (ad : Nat → Nat) (hr : Nat → Nat → Nat) (h0 : Nat → Nat) (sz N : Nat) (a1 : Int32) (s0 : ThlS) (q : Nat × Int32 × ThlS) (h : fX12_isMatchedBySets N a1 s0 = some q) : vM l yX12_isMatchedBySets cX12_isMatchedBySets 2 (some .boolean) ({ frames := 7, cells := 1, slots := 6, locals := 110 }) D cA ad (ThlW cA ad hr h0 s0) sz [.ref (h0 0), .int a1] q.1 (some (.int q.2.1)) (ThlW cA ad hr h0 q.2.2) 1 6 := by
  generalize erm : ({ frames := 7, cells := 1, slots := 6, locals := 110 } : Room) = rm
  refine vMet (by decide) (Nat.le_of_ble_eq_true rfl) ?_
  intro p e s m below meth c hx hb hr9 hlocks hml hts hown hin hK hP A eA hD hS hA hsz hN hE hV htab ls hl
  have hl : lv_has ls 2 [(0, .ref (h0 0)), (1, .int a1)] := hl
  clear eA
  rw [fX12_isMatchedBySets] at h
  refine lv_iload_n hx hb dX12_isMatchedBySets_0 rfl (lv_at hl 1 rfl) ?_
  obtain ⟨q1, c1, h⟩ := x_call h
  refine vCall (w2 := ThlW cA ad hr h0 s0) (vRunS (n := 1) (As := [.int a1]) (rest := []) ⟨hx, hb, hml, hown, hts⟩ (kX12_checkAmount l hl9 D cA ad  _ N a1 q1 c1) qco_X12_checkAmount qml_X12_304 qst_X12_checkAmount qini_X12 (by decide +kernel) (by rw [← erm]; rfl) hN hE hV hS hA hK hP hD [] rfl rfl rfl rfl hl.1 rfl (lv_room (Nat.le_of_ble_eq_true rfl)) dX12_isMatchedBySets_1 ⟨by rw [← erm]; exact Nat.le_of_ble_eq_true rfl, by rw [← erm]; exact Nat.le_of_ble_eq_true rfl⟩) hP hD hS hA [] rfl rfl (xselH [none, none, none, none, none, none, none, none, none, none, none, none, none, none, none, none, none, none, none, none, none, none, none, none, none, none, none, none, none, none, none, none, none, none, none, none, none, none, none, none, none, none, none, none, none, none, none, none, none, none, none, none, none, none, none, none, none, none, none, none, none] rfl (by decide +kernel)) (fun x1 q9 ce H locs hP hD hS hc1 hc2 hc3 => ?_) (fun x1 H locs hP hD hS => ?_)
  · have h := x_th1 h x1
    have h := Option.some.inj h
    subst h
    exact vOut (x := q1) htab hlocks hK hP hD hS x1 hc1 hc2 hc3 (Nat.le_of_ble_eq_true rfl) (Nat.le_of_ble_eq_true rfl)
  have h := x_th0 h x1
  refine lv_aload_n hx hb dX12_isMatchedBySets_4 rfl (lv_at hl 0 rfl) ?_
  refine va_get (D := D) (ci := 11) (v := .ref (h0 53)) (C := RX12) (T := TX12) (N := 10) hx hb hts iX12 hown hK hP 0 rfl rfl 3 (by decide) (hts _ qfl_X12_29) (fun _ h9 => h9) rfl dX12_isMatchedBySets_5 ?_
  refine lv_aload_n hx hb dX12_isMatchedBySets_8 rfl (lv_at hl 0 rfl) ?_
  refine va_get (D := D) (ci := 11) (v := .ref (h0 1)) (C := RX12) (T := TX12) (N := 10) hx hb hts iX12 hown hK hP 0 rfl rfl 0 (by decide) (hts _ qfl_X12_10) (fun _ h9 => h9) rfl dX12_isMatchedBySets_9 ?_
  refine va_getN (D := D) (ci := 4) (v := .ref (h0 23)) (C := RX3) (T := TX3) (N := 7) hx hb hts iX3 hown hK hP 1 rfl rfl 4 (by decide) (hN.use qfn_X12_145) (fun _ h9 => h9) rfl dX12_isMatchedBySets_12 ?_
  refine lv_iload_n hx hb dX12_isMatchedBySets_15 rfl (lv_at hl 1 rfl) ?_
  obtain ⟨q2, c2, h⟩ := x_call h
  refine xCallH (w2 := ThlW cA ad hr h0 ((Thls3 (Thls0 s0 ((Boos4 s0.1 q2.2.2))) q2.2.1))) (zRunV (n := 2) (As := [.ref (h0 23), .int a1]) (rest := []) ⟨hx, hb, hml, hown, hts⟩ (kX7_hasSet l D cA ad (fun k => h0 (k + 53)) (fun k => h0 (k + 23)) _ N a1 s0.2.2.2.1 s0.1.2.2.2.2.1 q2 c2) qco_X7_hasSet qml_X12_311 qin_X7_hasSet qse_X7_hasSet qini_X7 (by decide +kernel) (by rw [← erm]; rfl) hN hE hS hA hK hP hD [53, 54, 55, 23, 24, 25] rfl rfl (q0 := 0) rfl rfl rfl rfl rfl hl.1 rfl (lv_room (Nat.le_of_ble_eq_true rfl)) dX12_isMatchedBySets_16 ⟨by rw [← erm]; exact Nat.le_of_ble_eq_true rfl, by rw [← erm]; exact Nat.le_of_ble_eq_true rfl⟩) hP hD hS hA [53, 54, 55, 23, 24, 25] rfl rfl (xselH [none, none, none, none, none, none, none, none, none, none, none, none, none, none, none, none, none, none, none, none, none, none, none, some 3, some 4, some 5, none, none, none, none, none, none, none, none, none, none, none, none, none, none, none, none, none, none, none, none, none, none, none, none, none, none, none, some 0, some 1, some 2, none, none, none, none, none] rfl (by decide +kernel)) (fun H locs hP hD hS => ?_)
  obtain ⟨z3, h⟩ := x_nz h
  have h := Option.some.inj h
  subst h
  refine W.widen (k := 1) (n := 6) (Nat.le_of_ble_eq_true rfl) (Nat.le_of_ble_eq_true rfl) ?_
  exact vZret hx hb hr9 hlocks (xnar_n z3) hP hK hD hS dX12_isMatchedBySets_19
def fX12_matchSize (N : Nat) (a1 : Int32) (s0 : ThlS) : Option (Nat × Int32 × ThlS) :=
  xcall (fX12_checkAmount N a1) fun q1 =>
  xthr q1 (some (q1, 0, s0)) <|
  xcall (fX7_chosenSet N a1 s0.2.2.2.1 s0.1.2.2.2.2.1) fun q2 =>
  if q2.1 = 0 then
    some (2, 0, (Thls3 (Thls0 s0 ((Boos4 s0.1 q2.2.2))) q2.2.1))
  else
    xcall (fJ6_bitCount_0f7a4 N q2.1) fun q4 =>
    some (0, q4, (Thls3 (Thls0 s0 ((Boos4 s0.1 q2.2.2))) q2.2.1))
set_option maxRecDepth 100000 in
set_option maxHeartbeats 4000000 in
theorem kX12_matchSize (l : Launch) (hl9 : l.stackTraces = false) (D : va_G) (cA : Nat → ClassId) (ad : Nat → Nat) (hr : Nat → Nat → Nat) (h0 : Nat → Nat) (sz N : Nat) (a1 : Int32) (s0 : ThlS) (q : Nat × Int32 × ThlS) (h : fX12_matchSize N a1 s0 = some q) : vM l yX12_matchSize cX12_matchSize 3 (some .int) ({ frames := 7, cells := 2, slots := 12, locals := 110 }) D cA ad (ThlW cA ad hr h0 s0) sz [.ref (h0 0), .int a1] q.1 (some (.int q.2.1)) (ThlW cA ad hr h0 q.2.2) 2 12 := by
  generalize erm : ({ frames := 7, cells := 2, slots := 12, locals := 110 } : Room) = rm
  refine vMet (by decide) (Nat.le_of_ble_eq_true rfl) ?_
  intro p e s m below meth c hx hb hr9 hlocks hml hts hown hin hK hP A eA hD hS hA hsz hN hE hV htab ls hl
  have hl : lv_has ls 3 [(0, .ref (h0 0)), (1, .int a1)] := hl
  clear eA
  rw [fX12_matchSize] at h
  refine lv_iload_n hx hb dX12_matchSize_0 rfl (lv_at hl 1 rfl) ?_
  obtain ⟨q1, c1, h⟩ := x_call h
  refine vCall (w2 := ThlW cA ad hr h0 s0) (vRunS (n := 1) (As := [.int a1]) (rest := []) ⟨hx, hb, hml, hown, hts⟩ (kX12_checkAmount l hl9 D cA ad  _ N a1 q1 c1) qco_X12_checkAmount qml_X12_304 qst_X12_checkAmount qini_X12 (by decide +kernel) (by rw [← erm]; rfl) hN hE hV hS hA hK hP hD [] rfl rfl rfl rfl hl.1 rfl (lv_room (Nat.le_of_ble_eq_true rfl)) dX12_matchSize_1 ⟨by rw [← erm]; exact Nat.le_of_ble_eq_true rfl, by rw [← erm]; exact Nat.le_of_ble_eq_true rfl⟩) hP hD hS hA [] rfl rfl (xselH [none, none, none, none, none, none, none, none, none, none, none, none, none, none, none, none, none, none, none, none, none, none, none, none, none, none, none, none, none, none, none, none, none, none, none, none, none, none, none, none, none, none, none, none, none, none, none, none, none, none, none, none, none, none, none, none, none, none, none, none, none] rfl (by decide +kernel)) (fun x1 q9 ce H locs hP hD hS hc1 hc2 hc3 => ?_) (fun x1 H locs hP hD hS => ?_)
  · have h := x_th1 h x1
    have h := Option.some.inj h
    subst h
    exact vOut (x := q1) htab hlocks hK hP hD hS x1 hc1 hc2 hc3 (Nat.le_of_ble_eq_true rfl) (Nat.le_of_ble_eq_true rfl)
  have h := x_th0 h x1
  refine lv_aload_n hx hb dX12_matchSize_4 rfl (lv_at hl 0 rfl) ?_
  refine va_get (D := D) (ci := 11) (v := .ref (h0 53)) (C := RX12) (T := TX12) (N := 10) hx hb hts iX12 hown hK hP 0 rfl rfl 3 (by decide) (hts _ qfl_X12_29) (fun _ h9 => h9) rfl dX12_matchSize_5 ?_
  refine lv_aload_n hx hb dX12_matchSize_8 rfl (lv_at hl 0 rfl) ?_
  refine va_get (D := D) (ci := 11) (v := .ref (h0 1)) (C := RX12) (T := TX12) (N := 10) hx hb hts iX12 hown hK hP 0 rfl rfl 0 (by decide) (hts _ qfl_X12_10) (fun _ h9 => h9) rfl dX12_matchSize_9 ?_
  refine va_getN (D := D) (ci := 4) (v := .ref (h0 23)) (C := RX3) (T := TX3) (N := 7) hx hb hts iX3 hown hK hP 1 rfl rfl 4 (by decide) (hN.use qfn_X12_145) (fun _ h9 => h9) rfl dX12_matchSize_12 ?_
  refine lv_iload_n hx hb dX12_matchSize_15 rfl (lv_at hl 1 rfl) ?_
  obtain ⟨q2, c2, h⟩ := x_call h
  refine xCallH (w2 := ThlW cA ad hr h0 ((Thls3 (Thls0 s0 ((Boos4 s0.1 q2.2.2))) q2.2.1))) (zRunV (n := 2) (As := [.ref (h0 23), .int a1]) (rest := []) ⟨hx, hb, hml, hown, hts⟩ (kX7_chosenSet l D cA ad (fun k => h0 (k + 53)) (fun k => h0 (k + 23)) _ N a1 s0.2.2.2.1 s0.1.2.2.2.2.1 q2 c2) qco_X7_chosenSet qml_X12_159 qin_X7_chosenSet qse_X7_chosenSet qini_X7 (by decide +kernel) (by rw [← erm]; rfl) hN hE hS hA hK hP hD [53, 54, 55, 23, 24, 25] rfl rfl (q0 := 0) rfl rfl rfl rfl rfl hl.1 rfl (lv_room (Nat.le_of_ble_eq_true rfl)) dX12_matchSize_16 ⟨by rw [← erm]; exact Nat.le_of_ble_eq_true rfl, by rw [← erm]; exact Nat.le_of_ble_eq_true rfl⟩) hP hD hS hA [53, 54, 55, 23, 24, 25] rfl rfl (xselH [none, none, none, none, none, none, none, none, none, none, none, none, none, none, none, none, none, none, none, none, none, none, none, some 3, some 4, some 5, none, none, none, none, none, none, none, none, none, none, none, none, none, none, none, none, none, none, none, none, none, none, none, none, none, none, none, some 0, some 1, some 2, none, none, none, none, none] rfl (by decide +kernel)) (fun H locs hP hD hS => ?_)
  refine lv_istore_n (lv' := [(2, .int q2.1), (0, .ref (h0 0)), (1, .int a1)]) hx hb dX12_matchSize_19 rfl hl (by decide) rfl (fun ls hl => ?_)
  refine lv_iload_n hx hb dX12_matchSize_20 rfl (lv_at hl 0 rfl) ?_
  refine lv_if_ne (tgt := 35) hx hb dX12_matchSize_21 (by decide) (fun c3 => ?_) (fun c3 => ?_)
  · have h := x_f h c3
    refine lv_iload_n hx hb dX12_matchSize_35 rfl (lv_at hl 0 rfl) ?_
    obtain ⟨q4, c4, h⟩ := x_call h
    refine xCallH (w2 := ThlW cA ad hr h0 ((Thls3 (Thls0 s0 ((Boos4 s0.1 q2.2.2))) q2.2.1))) (xRunS (n := 1) (As := [.int q2.1]) (rest := []) ⟨hx, hb, hml, hown, hts⟩ (kJ6_bitCount_0f7a4 l D cA  _ N q2.1 q4 c4) qco_J6_bitCount_0f7a4 qml_X12_316 qst_J6_bitCount_0f7a4 qini_J6 (by decide +kernel) (by rw [← erm]; rfl) hK hP hD [] rfl rfl rfl rfl hl.1 rfl (lv_room (Nat.le_of_ble_eq_true rfl)) dX12_matchSize_36 ⟨by rw [← erm]; exact Nat.le_of_ble_eq_true rfl, by rw [← erm]; exact Nat.le_of_ble_eq_true rfl⟩) hP hD hS hA [] rfl rfl (xselH [none, none, none, none, none, none, none, none, none, none, none, none, none, none, none, none, none, none, none, none, none, none, none, none, none, none, none, none, none, none, none, none, none, none, none, none, none, none, none, none, none, none, none, none, none, none, none, none, none, none, none, none, none, none, none, none, none, none, none, none, none] rfl (by decide +kernel)) (fun H locs hP hD hS => ?_)
    have h := Option.some.inj h
    subst h
    refine W.widen (k := 2) (n := 12) (Nat.le_of_ble_eq_true rfl) (Nat.le_of_ble_eq_true rfl) ?_
    exact vIret hx hb hr9 hlocks hP hK hD hS dX12_matchSize_39
  · have h := x_t h c3
    have h := Option.some.inj h
    subst h
    exact vThrowN (n := 31) (text := "no set matches the payment") (is := 314) hx hb hl9 hown hts hN hV (by decide +kernel) hK hP hD hS (hl.1.trans hml.symm) dX12_matchSize_24 dX12_matchSize_27 (Or.inr ⟨rfl, dX12_matchSize_28⟩) dX12_matchSize_31 dX12_matchSize_34 htab (by rw [← erm]; rfl) hlocks (Nat.le_of_ble_eq_true rfl) (Nat.le_of_ble_eq_true rfl)
def fX12_isInMatch (N : Nat) (a1 : Int32) (a2 : Int32) (s0 : ThlS) : Option (Nat × Int32 × ThlS) :=
  xcall (fX12_checkedPlaceOf N a1 s0) fun q1 =>
  xthr q1.1 (some (q1.1, 0, s0)) <|
  xcall (fX12_checkAmount N a2) fun q2 =>
  xthr q2 (some (q2, 0, s0)) <|
  xcall (fX7_chosenSet N a2 s0.2.2.2.1 s0.1.2.2.2.2.1) fun q3 =>
  if q3.1 = 0 then
    some (4, 0, (Thls3 (Thls0 s0 ((Boos4 s0.1 q3.2.2))) q3.2.1))
  else
    xcall (fX12_isInSet N q1.2 q3.1) fun q5 =>
    xnz (xnar .boolean q5) <|
    some (0, q5, (Thls3 (Thls0 s0 ((Boos4 s0.1 q3.2.2))) q3.2.1))
set_option maxRecDepth 100000 in
set_option maxHeartbeats 4000000 in
theorem kX12_isInMatch (l : Launch) (hl9 : l.stackTraces = false) (D : va_G) (cA : Nat → ClassId) (ad : Nat → Nat) (hr : Nat → Nat → Nat) (h0 : Nat → Nat) (sz N : Nat) (a1 : Int32) (a2 : Int32) (s0 : ThlS) (q : Nat × Int32 × ThlS) (h : fX12_isInMatch N a1 a2 s0 = some q) : vM l yX12_isInMatch cX12_isInMatch 5 (some .boolean) ({ frames := 7, cells := 3, slots := 18, locals := 112 }) D cA ad (ThlW cA ad hr h0 s0) sz [.ref (h0 0), .int a1, .int a2] q.1 (some (.int q.2.1)) (ThlW cA ad hr h0 q.2.2) 3 18 := by
  generalize erm : ({ frames := 7, cells := 3, slots := 18, locals := 112 } : Room) = rm
  refine vMet (by decide) (Nat.le_of_ble_eq_true rfl) ?_
  intro p e s m below meth c hx hb hr9 hlocks hml hts hown hin hK hP A eA hD hS hA hsz hN hE hV htab ls hl
  have hl : lv_has ls 5 [(0, .ref (h0 0)), (1, .int a1), (2, .int a2)] := hl
  clear eA
  rw [fX12_isInMatch] at h
  refine lv_aload_n hx hb dX12_isInMatch_0 rfl (lv_at hl 0 rfl) ?_
  refine lv_iload_n hx hb dX12_isInMatch_1 rfl (lv_at hl 1 rfl) ?_
  obtain ⟨q1, c1, h⟩ := x_call h
  refine vCall (w2 := ThlW cA ad hr h0 s0) (vRunV (n := 1) (As := [.int a1]) (rest := []) ⟨hx, hb, hml, hown, hts⟩ (kX12_checkedPlaceOf l hl9 D cA ad hr h0 _ N a1 s0 q1 c1) qco_X12_checkedPlaceOf qml_X12_295 qin_X12_checkedPlaceOf qse_X12_checkedPlaceOf qini_X12 (by decide +kernel) (by rw [← erm]; rfl) hN hE hV hS hA hK hP hD [0, 1, 2, 3, 4, 5, 6, 7, 8, 9, 10, 11, 12, 13, 14, 15, 16, 17, 18, 19, 20, 21, 22, 23, 24, 25, 26, 27, 28, 29, 30, 31, 32, 33, 34, 35, 36, 37, 38, 39, 40, 41, 42, 43, 44, 45, 46, 47, 48, 49, 50, 51, 52, 53, 54, 55, 56, 57, 58, 59, 60] rfl rfl (q0 := 0) rfl rfl rfl rfl rfl hl.1 rfl (lv_room (Nat.le_of_ble_eq_true rfl)) dX12_isInMatch_2 ⟨by rw [← erm]; exact Nat.le_of_ble_eq_true rfl, by rw [← erm]; exact Nat.le_of_ble_eq_true rfl⟩) hP hD hS hA [0, 1, 2, 3, 4, 5, 6, 7, 8, 9, 10, 11, 12, 13, 14, 15, 16, 17, 18, 19, 20, 21, 22, 23, 24, 25, 26, 27, 28, 29, 30, 31, 32, 33, 34, 35, 36, 37, 38, 39, 40, 41, 42, 43, 44, 45, 46, 47, 48, 49, 50, 51, 52, 53, 54, 55, 56, 57, 58, 59, 60] rfl rfl (xselH [some 0, some 1, some 2, some 3, some 4, some 5, some 6, some 7, some 8, some 9, some 10, some 11, some 12, some 13, some 14, some 15, some 16, some 17, some 18, some 19, some 20, some 21, some 22, some 23, some 24, some 25, some 26, some 27, some 28, some 29, some 30, some 31, some 32, some 33, some 34, some 35, some 36, some 37, some 38, some 39, some 40, some 41, some 42, some 43, some 44, some 45, some 46, some 47, some 48, some 49, some 50, some 51, some 52, some 53, some 54, some 55, some 56, some 57, some 58, some 59, some 60] rfl (by decide +kernel)) (fun x1 q9 ce H locs hP hD hS hc1 hc2 hc3 => ?_) (fun x1 H locs hP hD hS => ?_)
  · have h := x_th1 h x1
    have h := Option.some.inj h
    subst h
    exact vOut (x := q1.1) htab hlocks hK hP hD hS x1 hc1 hc2 hc3 (Nat.le_of_ble_eq_true rfl) (Nat.le_of_ble_eq_true rfl)
  have h := x_th0 h x1
  refine lv_istore_n (lv' := [(3, .int q1.2), (0, .ref (h0 0)), (1, .int a1), (2, .int a2)]) hx hb dX12_isInMatch_5 rfl hl (by decide) rfl (fun ls hl => ?_)
  refine lv_iload_n hx hb dX12_isInMatch_6 rfl (lv_at hl 3 rfl) ?_
  obtain ⟨q2, c2, h⟩ := x_call h
  refine vCall (w2 := ThlW cA ad hr h0 s0) (vRunS (n := 1) (As := [.int a2]) (rest := []) ⟨hx, hb, hml, hown, hts⟩ (kX12_checkAmount l hl9 D cA ad  _ N a2 q2 c2) qco_X12_checkAmount qml_X12_304 qst_X12_checkAmount qini_X12 (by decide +kernel) (by rw [← erm]; rfl) hN hE hV hS hA hK hP hD [] rfl rfl rfl rfl hl.1 rfl (lv_room (Nat.le_of_ble_eq_true rfl)) dX12_isInMatch_7 ⟨by rw [← erm]; exact Nat.le_of_ble_eq_true rfl, by rw [← erm]; exact Nat.le_of_ble_eq_true rfl⟩) hP hD hS hA [] rfl rfl (xselH [none, none, none, none, none, none, none, none, none, none, none, none, none, none, none, none, none, none, none, none, none, none, none, none, none, none, none, none, none, none, none, none, none, none, none, none, none, none, none, none, none, none, none, none, none, none, none, none, none, none, none, none, none, none, none, none, none, none, none, none, none] rfl (by decide +kernel)) (fun x2 q9 ce H locs hP hD hS hc1 hc2 hc3 => ?_) (fun x2 H locs hP hD hS => ?_)
  · have h := x_th1 h x2
    have h := Option.some.inj h
    subst h
    exact vOut (x := q2) htab hlocks hK hP hD hS x2 hc1 hc2 hc3 (Nat.le_of_ble_eq_true rfl) (Nat.le_of_ble_eq_true rfl)
  have h := x_th0 h x2
  refine lv_aload_n hx hb dX12_isInMatch_10 rfl (lv_at hl 1 rfl) ?_
  refine va_get (D := D) (ci := 11) (v := .ref (h0 53)) (C := RX12) (T := TX12) (N := 10) hx hb hts iX12 hown hK hP 0 rfl rfl 3 (by decide) (hts _ qfl_X12_29) (fun _ h9 => h9) rfl dX12_isInMatch_11 ?_
  refine lv_aload_n hx hb dX12_isInMatch_14 rfl (lv_at hl 1 rfl) ?_
  refine va_get (D := D) (ci := 11) (v := .ref (h0 1)) (C := RX12) (T := TX12) (N := 10) hx hb hts iX12 hown hK hP 0 rfl rfl 0 (by decide) (hts _ qfl_X12_10) (fun _ h9 => h9) rfl dX12_isInMatch_15 ?_
  refine va_getN (D := D) (ci := 4) (v := .ref (h0 23)) (C := RX3) (T := TX3) (N := 7) hx hb hts iX3 hown hK hP 1 rfl rfl 4 (by decide) (hN.use qfn_X12_145) (fun _ h9 => h9) rfl dX12_isInMatch_18 ?_
  refine lv_iload_n hx hb dX12_isInMatch_21 rfl (lv_at hl 3 rfl) ?_
  obtain ⟨q3, c3, h⟩ := x_call h
  refine xCallH (w2 := ThlW cA ad hr h0 ((Thls3 (Thls0 s0 ((Boos4 s0.1 q3.2.2))) q3.2.1))) (zRunV (n := 2) (As := [.ref (h0 23), .int a2]) (rest := []) ⟨hx, hb, hml, hown, hts⟩ (kX7_chosenSet l D cA ad (fun k => h0 (k + 53)) (fun k => h0 (k + 23)) _ N a2 s0.2.2.2.1 s0.1.2.2.2.2.1 q3 c3) qco_X7_chosenSet qml_X12_159 qin_X7_chosenSet qse_X7_chosenSet qini_X7 (by decide +kernel) (by rw [← erm]; rfl) hN hE hS hA hK hP hD [53, 54, 55, 23, 24, 25] rfl rfl (q0 := 0) rfl rfl rfl rfl rfl hl.1 rfl (lv_room (Nat.le_of_ble_eq_true rfl)) dX12_isInMatch_22 ⟨by rw [← erm]; exact Nat.le_of_ble_eq_true rfl, by rw [← erm]; exact Nat.le_of_ble_eq_true rfl⟩) hP hD hS hA [53, 54, 55, 23, 24, 25] rfl rfl (xselH [none, none, none, none, none, none, none, none, none, none, none, none, none, none, none, none, none, none, none, none, none, none, none, some 3, some 4, some 5, none, none, none, none, none, none, none, none, none, none, none, none, none, none, none, none, none, none, none, none, none, none, none, none, none, none, none, some 0, some 1, some 2, none, none, none, none, none] rfl (by decide +kernel)) (fun H locs hP hD hS => ?_)
  refine lv_istore (lv' := [(4, .int q3.1), (3, .int q1.2), (0, .ref (h0 0)), (1, .int a1), (2, .int a2)]) hx hb dX12_isInMatch_25 hl (by decide) rfl (fun ls hl => ?_)
  refine lv_iload hx hb dX12_isInMatch_27 (lv_at hl 0 rfl) ?_
  refine lv_if_ne (tgt := 43) hx hb dX12_isInMatch_29 (by decide) (fun c4 => ?_) (fun c4 => ?_)
  · have h := x_f h c4
    refine lv_iload_n hx hb dX12_isInMatch_43 rfl (lv_at hl 1 rfl) ?_
    refine lv_iload hx hb dX12_isInMatch_44 (lv_at hl 0 rfl) ?_
    obtain ⟨q5, c5, h⟩ := x_call h
    refine xCallH (w2 := ThlW cA ad hr h0 ((Thls3 (Thls0 s0 ((Boos4 s0.1 q3.2.2))) q3.2.1))) (xRunS (n := 2) (As := [.int q1.2, .int q3.1]) (rest := []) ⟨hx, hb, hml, hown, hts⟩ (kX12_isInSet l D cA  _ N q1.2 q3.1 q5 c5) qco_X12_isInSet qml_X12_324 qst_X12_isInSet qini_X12 (by decide +kernel) (by rw [← erm]; rfl) hK hP hD [] rfl rfl rfl rfl hl.1 rfl (lv_room (Nat.le_of_ble_eq_true rfl)) dX12_isInMatch_46 ⟨by rw [← erm]; exact Nat.le_of_ble_eq_true rfl, by rw [← erm]; exact Nat.le_of_ble_eq_true rfl⟩) hP hD hS hA [] rfl rfl (xselH [none, none, none, none, none, none, none, none, none, none, none, none, none, none, none, none, none, none, none, none, none, none, none, none, none, none, none, none, none, none, none, none, none, none, none, none, none, none, none, none, none, none, none, none, none, none, none, none, none, none, none, none, none, none, none, none, none, none, none, none, none] rfl (by decide +kernel)) (fun H locs hP hD hS => ?_)
    obtain ⟨z6, h⟩ := x_nz h
    have h := Option.some.inj h
    subst h
    refine W.widen (k := 3) (n := 18) (Nat.le_of_ble_eq_true rfl) (Nat.le_of_ble_eq_true rfl) ?_
    exact vZret hx hb hr9 hlocks (xnar_n z6) hP hK hD hS dX12_isInMatch_49
  · have h := x_t h c4
    have h := Option.some.inj h
    subst h
    exact vThrowW (x := 4) (text := "no set matches the payment") (is := 314) hx hb hl9 hown hts hN hV hA (by decide) xThr4 xThg4 (by decide +kernel) hK hP hD hS (hl.1.trans hml.symm) dX12_isInMatch_32 dX12_isInMatch_35 dX12_isInMatch_36 dX12_isInMatch_39 dX12_isInMatch_42 htab (by rw [← erm]; rfl) hlocks (by decide) (Nat.le_of_ble_eq_true rfl) (Nat.le_of_ble_eq_true rfl)
def fX12_feed (N : Nat) (a1 : Int32) (s0 : ThlS) : Option (Nat × Int32 × ThlS) :=
  if s0.2.2.2.2.1.2.1 < 60 then
    xcall (fX9_append N a1 s0.2.2.2.2.1) fun q2 =>
    some (0, q2.1, (Thls4 s0 q2.2))
  else
    some (4, 0, s0)
set_option maxRecDepth 100000 in
set_option maxHeartbeats 4000000 in
theorem kX12_feed (l : Launch) (hl9 : l.stackTraces = false) (D : va_G) (cA : Nat → ClassId) (ad : Nat → Nat) (hr : Nat → Nat → Nat) (h0 : Nat → Nat) (sz N : Nat) (a1 : Int32) (s0 : ThlS) (q : Nat × Int32 × ThlS) (h : fX12_feed N a1 s0 = some q) : vM l yX12_feed cX12_feed 2 (some .int) ({ frames := 6, cells := 1, slots := 6, locals := 90 }) D cA ad (ThlW cA ad hr h0 s0) sz [.ref (h0 0), .int a1] q.1 (some (.int q.2.1)) (ThlW cA ad hr h0 q.2.2) 1 6 := by
  generalize erm : ({ frames := 6, cells := 1, slots := 6, locals := 90 } : Room) = rm
  refine vMet (by decide) (Nat.le_of_ble_eq_true rfl) ?_
  intro p e s m below meth c hx hb hr9 hlocks hml hts hown hin hK hP A eA hD hS hA hsz hN hE hV htab ls hl
  have hl : lv_has ls 2 [(0, .ref (h0 0)), (1, .int a1)] := hl
  clear eA
  rw [fX12_feed] at h
  refine lv_aload_n hx hb dX12_feed_0 rfl (lv_at hl 0 rfl) ?_
  refine va_get (D := D) (ci := 11) (v := .ref (h0 56)) (C := RX12) (T := TX12) (N := 10) hx hb hts iX12 hown hK hP 0 rfl rfl 4 (by decide) (hts _ qfl_X12_36) (fun _ h9 => h9) rfl dX12_feed_1 ?_
  refine va_getN (D := D) (ci := 9) (v := .int s0.2.2.2.2.1.2.1) (C := RX9) (T := TX9) (N := 6) hx hb hts iX9 hown hK hP 56 rfl rfl 1 (by decide) (hN.use qfn_X12_338) (fun _ h9 => h9) rfl dX12_feed_4 ?_
  refine lv_bipush (v := 60) hx hb dX12_feed_7 (by decide) ?_
  refine lv_icmp_lt (tgt := 23) hx hb dX12_feed_9 (by decide) (fun c1 => ?_) (fun c1 => ?_)
  · have h := x_t h c1
    refine lv_aload_n hx hb dX12_feed_23 rfl (lv_at hl 0 rfl) ?_
    refine va_get (D := D) (ci := 11) (v := .ref (h0 56)) (C := RX12) (T := TX12) (N := 10) hx hb hts iX12 hown hK hP 0 rfl rfl 4 (by decide) (hts _ qfl_X12_36) (fun _ h9 => h9) rfl dX12_feed_24 ?_
    refine lv_iload_n hx hb dX12_feed_27 rfl (lv_at hl 1 rfl) ?_
    obtain ⟨q2, c2, h⟩ := x_call h
    refine xCallH (w2 := ThlW cA ad hr h0 ((Thls4 s0 q2.2))) (zRunV (n := 1) (As := [.int a1]) (rest := []) ⟨hx, hb, hml, hown, hts⟩ (kX9_append l D cA ad (fun k => h0 (k + 56)) _ N a1 s0.2.2.2.2.1 q2 c2) qco_X9_append qml_X12_343 qin_X9_append qse_X9_append qini_X9 (by decide +kernel) (by rw [← erm]; rfl) hN hE hS hA hK hP hD [56, 57, 58, 59] rfl rfl (q0 := 0) rfl rfl rfl rfl rfl hl.1 rfl (lv_room (Nat.le_of_ble_eq_true rfl)) dX12_feed_28 ⟨Nat.zero_le _, Nat.zero_le _⟩) hP hD hS hA [56, 57, 58, 59] rfl rfl (xselH [none, none, none, none, none, none, none, none, none, none, none, none, none, none, none, none, none, none, none, none, none, none, none, none, none, none, none, none, none, none, none, none, none, none, none, none, none, none, none, none, none, none, none, none, none, none, none, none, none, none, none, none, none, none, none, none, some 0, some 1, some 2, some 3, none] rfl (by decide +kernel)) (fun H locs hP hD hS => ?_)
    have h := Option.some.inj h
    subst h
    refine W.widen (k := 1) (n := 6) (Nat.le_of_ble_eq_true rfl) (Nat.le_of_ble_eq_true rfl) ?_
    exact vIret hx hb hr9 hlocks hP hK hD hS dX12_feed_31
  · have h := x_f h c1
    have h := Option.some.inj h
    subst h
    exact vThrowW (x := 4) (text := "the input buffer is full") (is := 341) hx hb hl9 hown hts hN hV hA (by decide) xThr4 xThg4 (by decide +kernel) hK hP hD hS (hl.1.trans hml.symm) dX12_feed_12 dX12_feed_15 dX12_feed_16 dX12_feed_19 dX12_feed_22 htab (by rw [← erm]; rfl) hlocks (by decide) (Nat.le_of_ble_eq_true rfl) (Nat.le_of_ble_eq_true rfl)
def fX12_runCommands_L55 (N : Nat) (K83 : Int32 → ThlS → (Nat → BooS) → Option (Nat × Int32 × ThlS × (Nat → BooS))) : Nat → Int32 → ThlS → (Nat → BooS) → Option (Nat × Int32 × ThlS × (Nat → BooS))
  | 0, _, _, _ => none
  | n + 1, v2_8, s0_8, s1_8 =>
    if s0_8.2.2.2.2.1.2.2.2.2.1 ≤ v2_8 then
      K83 v2_8 s0_8 s1_8
    else
      xcall (fX12_carryOut N v2_8 s0_8) fun q10 =>
      xnz (decide (q10.1 < 6)) <|
      if q10.1 = 0 then
        xlet (v2_8 + (1)) fun x13 =>
        fX12_runCommands_L55 N K83 n x13 q10.2 s1_8
      else
        K83 v2_8 q10.2 s1_8
def fX12_runCommands (N : Nat)  (s0 : ThlS) (s1 : (Nat → BooS)) : Option (Nat × Int32 × ThlS × (Nat → BooS)) :=
  xcall (fX9_read N s0.2.2.2.2.1) fun q1 =>
  if q1.1 = 0 then
    some (3, 0, (Thls8 (Thls4 s0 ((Scrs1 q1.2 0))) q1.2.2.2.2.2.2), s1)
  else
    xcall (fX5_setAside N s0.2.2.1 s0.1 s1) fun q3 =>
    xjoin (fun (v2_4 : Int32) (s0_4 : ThlS) (s1_4 : (Nat → BooS)) =>
        if s0_4.2.2.2.2.1.2.2.2.2.1 ≤ v2_4 then
          xcall (fX5_keepAside N s0_4.2.2.1) fun q6 =>
          some (0, s0_4.2.2.2.2.1.2.2.2.2.1, (Thls2 s0_4 q6), s1_4)
        else
          xcall (fX5_putBack N s0_4.2.2.1 s0_4.1 s1_4) fun q7 =>
          some (5, 0, (Thls9 (Thls2 (Thls0 s0_4 q7.2.1) q7.1) v2_4), q7.2.2)
      ) fun K83 =>
    fX12_runCommands_L55 N K83 N 0 ((Thls4 (Thls2 (Thls0 s0 q3.2.1) q3.1) ((Scrs1 q1.2 0)))) q3.2.2
set_option maxRecDepth 100000 in
set_option maxHeartbeats 4000000 in
theorem kX12_runCommands (l : Launch) (hl9 : l.stackTraces = false) (D : va_G) (cA : Nat → ClassId) (ad : Nat → Nat) (hr : Nat → Nat → Nat) (h0 : Nat → Nat) (sz N : Nat)  (s0 : ThlS) (s1 : (Nat → BooS)) (q : Nat × Int32 × ThlS × (Nat → BooS)) (h : fX12_runCommands N s0 s1 = some q) : vM l yX12_runCommands cX12_runCommands 3 (some .int) ({ frames := 8, cells := 1, slots := 6, locals := 175 }) D cA ad (ThlW cA ad hr h0 s0 ++ RowW cA hr s1) sz [.ref (h0 0)] q.1 (some (.int q.2.1)) (ThlW cA ad hr h0 q.2.2.1 ++ RowW cA hr q.2.2.2) 1 6 := by
  generalize erm : ({ frames := 8, cells := 1, slots := 6, locals := 175 } : Room) = rm
  refine vMet (by decide) (Nat.le_of_ble_eq_true rfl) ?_
  intro p e s m below meth c hx hb hr9 hlocks hml hts hown hin hK hP A eA hD hS hA hsz hN hE hV htab ls hl
  have hl : lv_has ls 3 [(0, .ref (h0 0))] := hl
  clear eA
  rw [fX12_runCommands] at h
  refine lv_aload_n hx hb dX12_runCommands_0 rfl (lv_at hl 0 rfl) ?_
  refine va_get (D := D) (ci := 11) (v := .ref (h0 56)) (C := RX12) (T := TX12) (N := 10) hx hb hts iX12 hown hK hP 0 rfl rfl 4 (by decide) (hts _ qfl_X12_36) (fun _ h9 => h9) rfl dX12_runCommands_1 ?_
  obtain ⟨q1, c1, h⟩ := x_call h
  refine xCallH (w2 := ThlW cA ad hr h0 ((Thls4 s0 q1.2)) ++ RowW cA hr s1) (zRunV (n := 0) (As := []) (rest := []) ⟨hx, hb, hml, hown, hts⟩ (kX9_read l D cA ad (fun k => h0 (k + 56)) _ N s0.2.2.2.2.1 q1 c1) qco_X9_read qml_X12_347 qin_X9_read qse_X9_read qini_X9 (by decide +kernel) (by rw [← erm]; rfl) hN hE hS hA hK hP hD [56, 57, 58, 59] rfl rfl (q0 := 0) rfl rfl rfl rfl rfl hl.1 rfl (lv_room (Nat.le_of_ble_eq_true rfl)) dX12_runCommands_4 ⟨Nat.zero_le _, Nat.zero_le _⟩) hP hD hS hA [56, 57, 58, 59] rfl rfl (xR2 (F := 61) [56, 57, 58, 59] (xselH [none, none, none, none, none, none, none, none, none, none, none, none, none, none, none, none, none, none, none, none, none, none, none, none, none, none, none, none, none, none, none, none, none, none, none, none, none, none, none, none, none, none, none, none, none, none, none, none, none, none, none, none, none, none, none, none, some 0, some 1, some 2, some 3, none] rfl (by decide +kernel)) rfl rfl (by decide +kernel)) (fun H locs hP hD hS => ?_)
  refine lv_istore_n (lv' := [(1, .int q1.1), (0, .ref (h0 0))]) hx hb dX12_runCommands_7 rfl hl (by decide) rfl (fun ls hl => ?_)
  refine lv_aload_n hx hb dX12_runCommands_8 rfl (lv_at hl 1 rfl) ?_
  refine va_get (D := D) (ci := 11) (v := .ref (h0 56)) (C := RX12) (T := TX12) (N := 10) hx hb hts iX12 hown hK hP 0 rfl rfl 4 (by decide) (hts _ qfl_X12_36) (fun _ h9 => h9) rfl dX12_runCommands_9 ?_
  refine lv_iconst (v := 0) hx hb dX12_runCommands_12 (by decide) ?_
  refine va_putN (D := D) (ci := 9) (v := .int 0) (ty := .int) (C := RX9) (T := TX9) (N := 6) hx hb hts iX9 tyX9 tyX9_ok nmX9 hown hK hP hD hS 56 rfl rfl 1 (by decide) (hN.use qfn_X12_338) (fun _ h9 => h9) rfl (by decide +kernel) rfl rfl (Nat.le_of_ble_eq_true rfl) dX12_runCommands_13 (fun H locs hP hD hS => ?_)
  have hP : va_P D vwCl (ThlW cA ad hr h0 ((Thls4 s0 ((Scrs1 q1.2 0)))) ++ RowW cA hr s1) H := hP
  have hD : va_D A (ThlW cA ad hr h0 ((Thls4 s0 ((Scrs1 q1.2 0)))) ++ RowW cA hr s1) := hD
  refine lv_iload_n hx hb dX12_runCommands_16 rfl (lv_at hl 0 rfl) ?_
  refine lv_if_ne (tgt := 42) hx hb dX12_runCommands_17 (by decide) (fun c2 => ?_) (fun c2 => ?_)
  · have h := x_f h c2
    refine lv_aload_n hx hb dX12_runCommands_42 rfl (lv_at hl 1 rfl) ?_
    refine va_get (D := D) (ci := 11) (v := .ref (h0 51)) (C := RX12) (T := TX12) (N := 10) hx hb hts iX12 hown hK hP 0 rfl rfl 2 (by decide) (hts _ qfl_X12_22) (fun _ h9 => h9) rfl dX12_runCommands_43 ?_
    refine lv_aload_n hx hb dX12_runCommands_46 rfl (lv_at hl 1 rfl) ?_
    refine va_get (D := D) (ci := 11) (v := .ref (h0 1)) (C := RX12) (T := TX12) (N := 10) hx hb hts iX12 hown hK hP 0 rfl rfl 0 (by decide) (hts _ qfl_X12_10) (fun _ h9 => h9) rfl dX12_runCommands_47 ?_
    obtain ⟨q3, c3, h⟩ := x_call h
    refine xCallH (w2 := ThlW cA ad hr h0 ((Thls4 (Thls2 (Thls0 s0 q3.2.1) q3.1) ((Scrs1 q1.2 0)))) ++ RowW cA hr q3.2.2) (zRunV (n := 1) (As := [.ref (h0 1)]) (rest := []) ⟨hx, hb, hml, hown, hts⟩ (kX5_setAside l D cA ad hr (fun k => h0 (k + 51)) (fun k => h0 (k + 1)) _ N s0.2.2.1 s0.1 s1 q3 c3) qco_X5_setAside qml_X12_355 qin_X5_setAside qse_X5_setAside qini_X5 (by decide +kernel) (by rw [← erm]; rfl) hN hE hS hA hK hP hD ([51, 52, 1, 2, 3, 4, 5, 6, 7, 8, 9, 10, 11, 12, 13, 14, 15, 16, 17, 18, 19, 20, 21, 22, 23, 24, 25] ++ tp 61) (xTailC [51, 52, 1, 2, 3, 4, 5, 6, 7, 8, 9, 10, 11, 12, 13, 14, 15, 16, 17, 18, 19, 20, 21, 22, 23, 24, 25] rfl rfl) (by decide +kernel) (q0 := 0) rfl rfl rfl rfl rfl hl.1 rfl (lv_room (Nat.le_of_ble_eq_true rfl)) dX12_runCommands_50 ⟨Nat.zero_le _, Nat.zero_le _⟩) hP hD hS hA ([51, 52, 1, 2, 3, 4, 5, 6, 7, 8, 9, 10, 11, 12, 13, 14, 15, 16, 17, 18, 19, 20, 21, 22, 23, 24, 25] ++ tp 61) (xTailC [51, 52, 1, 2, 3, 4, 5, 6, 7, 8, 9, 10, 11, 12, 13, 14, 15, 16, 17, 18, 19, 20, 21, 22, 23, 24, 25] rfl rfl) (xTailF rfl) (xT2 (F := 61) [51, 52, 1, 2, 3, 4, 5, 6, 7, 8, 9, 10, 11, 12, 13, 14, 15, 16, 17, 18, 19, 20, 21, 22, 23, 24, 25] (xselH [none, some 2, some 3, some 4, some 5, some 6, some 7, some 8, some 9, some 10, some 11, some 12, some 13, some 14, some 15, some 16, some 17, some 18, some 19, some 20, some 21, some 22, some 23, some 24, some 25, some 26, none, none, none, none, none, none, none, none, none, none, none, none, none, none, none, none, none, none, none, none, none, none, none, none, none, some 0, some 1, none, none, none, none, none, none, none, none] rfl (by decide +kernel)) rfl rfl rfl) (fun H locs hP hD hS => ?_)
    refine lv_iconst (v := 0) hx hb dX12_runCommands_53 (by decide) ?_
    refine lv_istore_n (lv' := [(2, .int 0), (1, .int q1.1), (0, .ref (h0 0))]) hx hb dX12_runCommands_54 rfl hl (by decide) rfl (fun ls hl => ?_)
    obtain ⟨K83, eK83, h⟩ := x_join h
    have hJ_K83 : ∀ (v2_4 : Int32) (s0_4 : ThlS) (s1_4 : (Nat → BooS)) (H : Heap) (locs : List Loc), va_P D vwCl (ThlW cA ad hr h0 s0_4 ++ RowW cA hr s1_4) H → va_D A (ThlW cA ad hr h0 s0_4 ++ RowW cA hr s1_4) → va_S A s.heap H locs → ∀ ls : Array Slot, lv_has ls 3 [(0, .ref (h0 0)), (2, .int v2_4)] → K83 v2_4 s0_4 s1_4 = some q → W p l e rm s m ([.ref (h0 0)] : List Value).toArray below meth c H locs 0 0 (vx_MQ below (vQc D cA A q.1 (ThlW cA ad hr h0 q.2.2.1 ++ RowW cA hr q.2.2.2) (some (.int q.2.1))) (vXc D cA A q.1 (ThlW cA ad hr h0 q.2.2.1 ++ RowW cA hr q.2.2.2)) ([.ref (h0 0)] : List Value).toArray s 1 6 A) (F0 m 83 ls []) := by
      clear h hP hD hS hl
      intro v2_4 s0_4 s1_4 H locs hP hD hS ls hl h
      rw [eK83] at h
      refine lv_iload_n hx hb dX12_runCommands_83 rfl (lv_at hl 1 rfl) ?_
      refine lv_aload_n hx hb dX12_runCommands_84 rfl (lv_at hl 0 rfl) ?_
      refine va_get (D := D) (ci := 11) (v := .ref (h0 56)) (C := RX12) (T := TX12) (N := 10) hx hb hts iX12 hown hK hP 0 rfl rfl 4 (by decide) (hts _ qfl_X12_36) (fun _ h9 => h9) rfl dX12_runCommands_85 ?_
      refine va_getN (D := D) (ci := 9) (v := .int s0_4.2.2.2.2.1.2.2.2.2.1) (C := RX9) (T := TX9) (N := 6) hx hb hts iX9 hown hK hP 56 rfl rfl 4 (by decide) (hN.use qfn_X12_359) (fun _ h9 => h9) rfl dX12_runCommands_88 ?_
      refine lv_icmp_ge (tgt := 121) hx hb dX12_runCommands_91 (by decide) (fun c5 => ?_) (fun c5 => ?_)
      · have h := x_t h c5
        refine lv_aload_n hx hb dX12_runCommands_121 rfl (lv_at hl 0 rfl) ?_
        refine va_get (D := D) (ci := 11) (v := .ref (h0 51)) (C := RX12) (T := TX12) (N := 10) hx hb hts iX12 hown hK hP 0 rfl rfl 2 (by decide) (hts _ qfl_X12_22) (fun _ h9 => h9) rfl dX12_runCommands_122 ?_
        obtain ⟨q6, c6, h⟩ := x_call h
        refine xCallH (w2 := ThlW cA ad hr h0 ((Thls2 s0_4 q6)) ++ RowW cA hr s1_4) (zRunV (n := 0) (As := []) (rest := []) ⟨hx, hb, hml, hown, hts⟩ (kX5_keepAside l D cA ad hr (fun k => h0 (k + 51)) _ N s0_4.2.2.1 q6 c6) qco_X5_keepAside qml_X12_377 qin_X5_keepAside qse_X5_keepAside qini_X5 (by decide +kernel) (by rw [← erm]; rfl) hN hE hS hA hK hP hD [51, 52] rfl rfl (q0 := 0) rfl rfl rfl rfl rfl hl.1 rfl (lv_room (Nat.le_of_ble_eq_true rfl)) dX12_runCommands_125 ⟨Nat.zero_le _, Nat.zero_le _⟩) hP hD hS hA [51, 52] rfl rfl (xR2 (F := 61) [51, 52] (xselH [none, none, none, none, none, none, none, none, none, none, none, none, none, none, none, none, none, none, none, none, none, none, none, none, none, none, none, none, none, none, none, none, none, none, none, none, none, none, none, none, none, none, none, none, none, none, none, none, none, none, none, some 0, some 1, none, none, none, none, none, none, none, none] rfl (by decide +kernel)) rfl rfl (by decide +kernel)) (fun H locs hP hD hS => ?_)
        refine lv_aload_n hx hb dX12_runCommands_128 rfl (lv_at hl 0 rfl) ?_
        refine va_get (D := D) (ci := 11) (v := .ref (h0 56)) (C := RX12) (T := TX12) (N := 10) hx hb hts iX12 hown hK hP 0 rfl rfl 4 (by decide) (hts _ qfl_X12_36) (fun _ h9 => h9) rfl dX12_runCommands_129 ?_
        refine va_getN (D := D) (ci := 9) (v := .int s0_4.2.2.2.2.1.2.2.2.2.1) (C := RX9) (T := TX9) (N := 6) hx hb hts iX9 hown hK hP 56 rfl rfl 4 (by decide) (hN.use qfn_X12_359) (fun _ h9 => h9) rfl dX12_runCommands_132 ?_
        have h := Option.some.inj h
        subst h
        refine W.widen (k := 1) (n := 6) (Nat.le_of_ble_eq_true rfl) (Nat.le_of_ble_eq_true rfl) ?_
        exact vIret hx hb hr9 hlocks hP hK hD hS dX12_runCommands_135
      · have h := x_f h c5
        refine lv_aload_n hx hb dX12_runCommands_94 rfl (lv_at hl 0 rfl) ?_
        refine va_get (D := D) (ci := 11) (v := .ref (h0 51)) (C := RX12) (T := TX12) (N := 10) hx hb hts iX12 hown hK hP 0 rfl rfl 2 (by decide) (hts _ qfl_X12_22) (fun _ h9 => h9) rfl dX12_runCommands_95 ?_
        refine lv_aload_n hx hb dX12_runCommands_98 rfl (lv_at hl 0 rfl) ?_
        refine va_get (D := D) (ci := 11) (v := .ref (h0 1)) (C := RX12) (T := TX12) (N := 10) hx hb hts iX12 hown hK hP 0 rfl rfl 0 (by decide) (hts _ qfl_X12_10) (fun _ h9 => h9) rfl dX12_runCommands_99 ?_
        obtain ⟨q7, c7, h⟩ := x_call h
        refine xCallH (w2 := ThlW cA ad hr h0 ((Thls2 (Thls0 s0_4 q7.2.1) q7.1)) ++ RowW cA hr q7.2.2) (zRunV (n := 1) (As := [.ref (h0 1)]) (rest := []) ⟨hx, hb, hml, hown, hts⟩ (kX5_putBack l D cA ad hr (fun k => h0 (k + 51)) (fun k => h0 (k + 1)) _ N s0_4.2.2.1 s0_4.1 s1_4 q7 c7) qco_X5_putBack qml_X12_369 qin_X5_putBack qse_X5_putBack qini_X5 (by decide +kernel) (by rw [← erm]; rfl) hN hE hS hA hK hP hD ([51, 52, 1, 2, 3, 4, 5, 6, 7, 8, 9, 10, 11, 12, 13, 14, 15, 16, 17, 18, 19, 20, 21, 22, 23, 24, 25] ++ tp 61) (xTailC [51, 52, 1, 2, 3, 4, 5, 6, 7, 8, 9, 10, 11, 12, 13, 14, 15, 16, 17, 18, 19, 20, 21, 22, 23, 24, 25] rfl rfl) (by decide +kernel) (q0 := 0) rfl rfl rfl rfl rfl hl.1 rfl (lv_room (Nat.le_of_ble_eq_true rfl)) dX12_runCommands_102 ⟨Nat.zero_le _, Nat.zero_le _⟩) hP hD hS hA ([51, 52, 1, 2, 3, 4, 5, 6, 7, 8, 9, 10, 11, 12, 13, 14, 15, 16, 17, 18, 19, 20, 21, 22, 23, 24, 25] ++ tp 61) (xTailC [51, 52, 1, 2, 3, 4, 5, 6, 7, 8, 9, 10, 11, 12, 13, 14, 15, 16, 17, 18, 19, 20, 21, 22, 23, 24, 25] rfl rfl) (xTailF rfl) (xT2 (F := 61) [51, 52, 1, 2, 3, 4, 5, 6, 7, 8, 9, 10, 11, 12, 13, 14, 15, 16, 17, 18, 19, 20, 21, 22, 23, 24, 25] (xselH [none, some 2, some 3, some 4, some 5, some 6, some 7, some 8, some 9, some 10, some 11, some 12, some 13, some 14, some 15, some 16, some 17, some 18, some 19, some 20, some 21, some 22, some 23, some 24, some 25, some 26, none, none, none, none, none, none, none, none, none, none, none, none, none, none, none, none, none, none, none, none, none, none, none, none, none, some 0, some 1, none, none, none, none, none, none, none, none] rfl (by decide +kernel)) rfl rfl rfl) (fun H locs hP hD hS => ?_)
        refine lv_aload_n hx hb dX12_runCommands_105 rfl (lv_at hl 0 rfl) ?_
        refine lv_iload_n hx hb dX12_runCommands_106 rfl (lv_at hl 1 rfl) ?_
        refine va_put (D := D) (ci := 11) (v := .int v2_4) (ty := .int) (C := RX12) (T := TX12) (N := 10) hx hb hts iX12 tyX12 tyX12_ok nmX12 hown hK hP hD hS 0 rfl rfl 9 (by decide) (hts _ qfl_X12_48) (fun _ h9 => h9) rfl (by decide +kernel) rfl rfl (Nat.le_of_ble_eq_true rfl) dX12_runCommands_107 (fun H locs hP hD hS => ?_)
        have hP : va_P D vwCl (ThlW cA ad hr h0 ((Thls9 (Thls2 (Thls0 s0_4 q7.2.1) q7.1) v2_4)) ++ RowW cA hr q7.2.2) H := hP
        have hD : va_D A (ThlW cA ad hr h0 ((Thls9 (Thls2 (Thls0 s0_4 q7.2.1) q7.1) v2_4)) ++ RowW cA hr q7.2.2) := hD
        have h := Option.some.inj h
        subst h
        exact vThrowW (x := 5) (text := "a command failed") (is := 374) hx hb hl9 hown hts hN hV hA (by decide) xThr5 xThg5 (by decide +kernel) hK hP hD hS (hl.1.trans hml.symm) dX12_runCommands_110 dX12_runCommands_113 dX12_runCommands_114 dX12_runCommands_117 dX12_runCommands_120 htab (by rw [← erm]; rfl) hlocks (by decide) (Nat.le_of_ble_eq_true rfl) (Nat.le_of_ble_eq_true rfl)
    have hL55 : ∀ (n : Nat) (v2_8 : Int32) (s0_8 : ThlS) (s1_8 : (Nat → BooS)) (H : Heap) (locs : List Loc), va_P D vwCl (ThlW cA ad hr h0 s0_8 ++ RowW cA hr s1_8) H → va_D A (ThlW cA ad hr h0 s0_8 ++ RowW cA hr s1_8) → va_S A s.heap H locs → ∀ ls : Array Slot, lv_has ls 3 [(0, .ref (h0 0)), (2, .int v2_8)] → fX12_runCommands_L55 N K83 n v2_8 s0_8 s1_8 = some q → W p l e rm s m ([.ref (h0 0)] : List Value).toArray below meth c H locs 0 0 (vx_MQ below (vQc D cA A q.1 (ThlW cA ad hr h0 q.2.2.1 ++ RowW cA hr q.2.2.2) (some (.int q.2.1))) (vXc D cA A q.1 (ThlW cA ad hr h0 q.2.2.1 ++ RowW cA hr q.2.2.2)) ([.ref (h0 0)] : List Value).toArray s 1 6 A) (F0 m 55 ls []) := by
      clear h hP hD hS hl
      intro n
      induction n with
      | zero => intro v2_8 s0_8 s1_8 H locs hP hD hS ls hl h; rw [fX12_runCommands_L55] at h; cases h
      | succ n ih =>
        intro v2_8 s0_8 s1_8 H locs hP hD hS ls hl h
        rw [fX12_runCommands_L55] at h
        refine lv_iload_n hx hb dX12_runCommands_55 rfl (lv_at hl 1 rfl) ?_
        refine lv_aload_n hx hb dX12_runCommands_56 rfl (lv_at hl 0 rfl) ?_
        refine va_get (D := D) (ci := 11) (v := .ref (h0 56)) (C := RX12) (T := TX12) (N := 10) hx hb hts iX12 hown hK hP 0 rfl rfl 4 (by decide) (hts _ qfl_X12_36) (fun _ h9 => h9) rfl dX12_runCommands_57 ?_
        refine va_getN (D := D) (ci := 9) (v := .int s0_8.2.2.2.2.1.2.2.2.2.1) (C := RX9) (T := TX9) (N := 6) hx hb hts iX9 hown hK hP 56 rfl rfl 4 (by decide) (hN.use qfn_X12_359) (fun _ h9 => h9) rfl dX12_runCommands_60 ?_
        refine lv_icmp_ge (tgt := 83) hx hb dX12_runCommands_63 (by decide) (fun c9 => ?_) (fun c9 => ?_)
        · have h := x_t h c9
          exact hJ_K83 v2_8 s0_8 s1_8 _ _ hP hD hS _ (lv_sub hl [0, 1] rfl) h
        · have h := x_f h c9
          refine lv_aload_n hx hb dX12_runCommands_66 rfl (lv_at hl 0 rfl) ?_
          refine lv_iload_n hx hb dX12_runCommands_67 rfl (lv_at hl 1 rfl) ?_
          obtain ⟨q10, c10, h⟩ := x_call h
          refine xCallH (w2 := ThlW cA ad hr h0 q10.2 ++ RowW cA hr s1_8) (zRunV (n := 1) (As := [.int v2_8]) (rest := []) ⟨hx, hb, hml, hown, hts⟩ (kX12_carryOut l D cA ad hr h0 _ N v2_8 s0_8 q10 c10) qco_X12_carryOut qml_X12_360 qin_X12_carryOut qse_X12_carryOut qini_X12 (by decide +kernel) (by rw [← erm]; rfl) hN hE hS hA hK hP hD [0, 1, 2, 3, 4, 5, 6, 7, 8, 9, 10, 11, 12, 13, 14, 15, 16, 17, 18, 19, 20, 21, 22, 23, 24, 25, 26, 27, 28, 29, 30, 31, 32, 33, 34, 35, 36, 37, 38, 39, 40, 41, 42, 43, 44, 45, 46, 47, 48, 49, 50, 51, 52, 53, 54, 55, 56, 57, 58, 59, 60] rfl rfl (q0 := 0) rfl rfl rfl rfl rfl hl.1 rfl (lv_room (Nat.le_of_ble_eq_true rfl)) dX12_runCommands_68 ⟨Nat.zero_le _, Nat.zero_le _⟩) hP hD hS hA [0, 1, 2, 3, 4, 5, 6, 7, 8, 9, 10, 11, 12, 13, 14, 15, 16, 17, 18, 19, 20, 21, 22, 23, 24, 25, 26, 27, 28, 29, 30, 31, 32, 33, 34, 35, 36, 37, 38, 39, 40, 41, 42, 43, 44, 45, 46, 47, 48, 49, 50, 51, 52, 53, 54, 55, 56, 57, 58, 59, 60] rfl rfl (xR2 (F := 61) [0, 1, 2, 3, 4, 5, 6, 7, 8, 9, 10, 11, 12, 13, 14, 15, 16, 17, 18, 19, 20, 21, 22, 23, 24, 25, 26, 27, 28, 29, 30, 31, 32, 33, 34, 35, 36, 37, 38, 39, 40, 41, 42, 43, 44, 45, 46, 47, 48, 49, 50, 51, 52, 53, 54, 55, 56, 57, 58, 59, 60] (xselH [some 0, some 1, some 2, some 3, some 4, some 5, some 6, some 7, some 8, some 9, some 10, some 11, some 12, some 13, some 14, some 15, some 16, some 17, some 18, some 19, some 20, some 21, some 22, some 23, some 24, some 25, some 26, some 27, some 28, some 29, some 30, some 31, some 32, some 33, some 34, some 35, some 36, some 37, some 38, some 39, some 40, some 41, some 42, some 43, some 44, some 45, some 46, some 47, some 48, some 49, some 50, some 51, some 52, some 53, some 54, some 55, some 56, some 57, some 58, some 59, some 60] rfl (by decide +kernel)) rfl rfl (by decide +kernel)) (fun H locs hP hD hS => ?_)
          refine va_gets hx hb (xE.f0 hE) hS hown (hts _ qfl_X12_363) (fun _ h9 => h9) dX12_runCommands_71 ?_
          obtain ⟨z11, h⟩ := x_nz h
          refine zAcmp_ne hE (tgt := 83) hx hb (of_decide_eq_true z11) (by decide) dX12_runCommands_74 (by decide) (fun c12 => ?_) (fun c12 => ?_)
          · have h := x_f h c12
            exact hJ_K83 v2_8 q10.2 s1_8 _ _ hP hD hS _ (lv_sub hl [0, 1] rfl) h
          · have h := x_t h c12
            obtain ⟨x13, ex13⟩ : ∃ y : Int32, y = v2_8 + (1) := ⟨_, rfl⟩
            have h := x_let h ex13
            refine lv_iinc (v := x13) (lv' := [(2, .int x13), (0, .ref (h0 0))]) hx hb dX12_runCommands_77 hl (k := 1) rfl (by rw [ex13]; rfl) (by decide) rfl (fun ls hl => ?_)
            refine lv_goto (tgt := 55) hx hb dX12_runCommands_80 (by decide) ?_
            exact ih x13 q10.2 s1_8 _ _ hP hD hS _ (lv_sub hl [1, 0] rfl) h
    exact hL55 N 0 ((Thls4 (Thls2 (Thls0 s0 q3.2.1) q3.1) ((Scrs1 q1.2 0)))) q3.2.2 _ _ hP hD hS _ (lv_sub hl [2, 0] rfl) h
  · have h := x_t h c2
    refine lv_aload_n hx hb dX12_runCommands_20 rfl (lv_at hl 1 rfl) ?_
    refine lv_aload_n hx hb dX12_runCommands_21 rfl (lv_at hl 1 rfl) ?_
    refine va_get (D := D) (ci := 11) (v := .ref (h0 56)) (C := RX12) (T := TX12) (N := 10) hx hb hts iX12 hown hK hP 0 rfl rfl 4 (by decide) (hts _ qfl_X12_36) (fun _ h9 => h9) rfl dX12_runCommands_22 ?_
    refine va_getN (D := D) (ci := 9) (v := .int q1.2.2.2.2.2.2) (C := RX9) (T := TX9) (N := 6) hx hb hts iX9 hown hK hP 56 rfl rfl 5 (by decide) (hN.use qfn_X12_350) (fun _ h9 => h9) rfl dX12_runCommands_25 ?_
    refine va_put (D := D) (ci := 11) (v := .int q1.2.2.2.2.2.2) (ty := .int) (C := RX12) (T := TX12) (N := 10) hx hb hts iX12 tyX12 tyX12_ok nmX12 hown hK hP hD hS 0 rfl rfl 8 (by decide) (hts _ qfl_X12_44) (fun _ h9 => h9) rfl (by decide +kernel) rfl rfl (Nat.le_of_ble_eq_true rfl) dX12_runCommands_28 (fun H locs hP hD hS => ?_)
    have hP : va_P D vwCl (ThlW cA ad hr h0 ((Thls8 (Thls4 s0 ((Scrs1 q1.2 0))) q1.2.2.2.2.2.2)) ++ RowW cA hr s1) H := hP
    have hD : va_D A (ThlW cA ad hr h0 ((Thls8 (Thls4 s0 ((Scrs1 q1.2 0))) q1.2.2.2.2.2.2)) ++ RowW cA hr s1) := hD
    have h := Option.some.inj h
    subst h
    exact vThrowW (x := 3) (text := "the text is malformed") (is := 353) hx hb hl9 hown hts hN hV hA (by decide) xThr3 xThg3 (by decide +kernel) hK hP hD hS (hl.1.trans hml.symm) dX12_runCommands_31 dX12_runCommands_34 dX12_runCommands_35 dX12_runCommands_38 dX12_runCommands_41 htab (by rw [← erm]; rfl) hlocks (by decide) (Nat.le_of_ble_eq_true rfl) (Nat.le_of_ble_eq_true rfl)
def fX12_errorPosition (N : Nat)  (s0 : ThlS) : Option (Nat × Int32) :=
  if s0.2.2.2.2.2.2.2.2.1 = (-1) then
    some (2, 0)
  else
    some (0, s0.2.2.2.2.2.2.2.2.1)
set_option maxRecDepth 100000 in
set_option maxHeartbeats 4000000 in
theorem kX12_errorPosition (l : Launch) (hl9 : l.stackTraces = false) (D : va_G) (cA : Nat → ClassId) (ad : Nat → Nat) (hr : Nat → Nat → Nat) (h0 : Nat → Nat) (sz N : Nat)  (s0 : ThlS) (q : Nat × Int32) (h : fX12_errorPosition N s0 = some q) : vM l yX12_errorPosition cX12_errorPosition 1 (some .int) ({ frames := 6, cells := 1, slots := 6, locals := 90 }) D cA ad (ThlW cA ad hr h0 s0) sz [.ref (h0 0)] q.1 (some (.int q.2)) (ThlW cA ad hr h0 s0) 1 6 := by
  generalize erm : ({ frames := 6, cells := 1, slots := 6, locals := 90 } : Room) = rm
  refine vMet (by decide) (Nat.le_of_ble_eq_true rfl) ?_
  intro p e s m below meth c hx hb hr9 hlocks hml hts hown hin hK hP A eA hD hS hA hsz hN hE hV htab ls hl
  have hl : lv_has ls 1 [(0, .ref (h0 0))] := hl
  clear eA
  rw [fX12_errorPosition] at h
  refine lv_aload_n hx hb dX12_errorPosition_0 rfl (lv_at hl 0 rfl) ?_
  refine va_get (D := D) (ci := 11) (v := .int s0.2.2.2.2.2.2.2.2.1) (C := RX12) (T := TX12) (N := 10) hx hb hts iX12 hown hK hP 0 rfl rfl 8 (by decide) (hts _ qfl_X12_44) (fun _ h9 => h9) rfl dX12_errorPosition_1 ?_
  refine lv_iconst (v := (-1)) hx hb dX12_errorPosition_4 (by decide) ?_
  refine lv_icmp_ne (tgt := 19) hx hb dX12_errorPosition_5 (by decide) (fun c1 => ?_) (fun c1 => ?_)
  · have h := x_f h c1
    refine lv_aload_n hx hb dX12_errorPosition_19 rfl (lv_at hl 0 rfl) ?_
    refine va_get (D := D) (ci := 11) (v := .int s0.2.2.2.2.2.2.2.2.1) (C := RX12) (T := TX12) (N := 10) hx hb hts iX12 hown hK hP 0 rfl rfl 8 (by decide) (hts _ qfl_X12_44) (fun _ h9 => h9) rfl dX12_errorPosition_20 ?_
    have h := Option.some.inj h
    subst h
    refine W.widen (k := 1) (n := 6) (Nat.le_of_ble_eq_true rfl) (Nat.le_of_ble_eq_true rfl) ?_
    exact vIret hx hb hr9 hlocks hP hK hD hS dX12_errorPosition_23
  · have h := x_t h c1
    have h := Option.some.inj h
    subst h
    exact vThrowN (n := 15) (text := "no text was malformed") (is := 380) hx hb hl9 hown hts hN hV (by decide +kernel) hK hP hD hS (hl.1.trans hml.symm) dX12_errorPosition_8 dX12_errorPosition_11 (Or.inr ⟨rfl, dX12_errorPosition_12⟩) dX12_errorPosition_15 dX12_errorPosition_18 htab (by rw [← erm]; rfl) hlocks (Nat.le_of_ble_eq_true rfl) (Nat.le_of_ble_eq_true rfl)
def fX12_failedCommand (N : Nat)  (s0 : ThlS) : Option (Nat × Int32) :=
  if s0.2.2.2.2.2.2.2.2.2 = (-1) then
    some (2, 0)
  else
    some (0, s0.2.2.2.2.2.2.2.2.2)
set_option maxRecDepth 100000 in
set_option maxHeartbeats 4000000 in
theorem kX12_failedCommand (l : Launch) (hl9 : l.stackTraces = false) (D : va_G) (cA : Nat → ClassId) (ad : Nat → Nat) (hr : Nat → Nat → Nat) (h0 : Nat → Nat) (sz N : Nat)  (s0 : ThlS) (q : Nat × Int32) (h : fX12_failedCommand N s0 = some q) : vM l yX12_failedCommand cX12_failedCommand 1 (some .int) ({ frames := 6, cells := 1, slots := 6, locals := 90 }) D cA ad (ThlW cA ad hr h0 s0) sz [.ref (h0 0)] q.1 (some (.int q.2)) (ThlW cA ad hr h0 s0) 1 6 := by
  generalize erm : ({ frames := 6, cells := 1, slots := 6, locals := 90 } : Room) = rm
  refine vMet (by decide) (Nat.le_of_ble_eq_true rfl) ?_
  intro p e s m below meth c hx hb hr9 hlocks hml hts hown hin hK hP A eA hD hS hA hsz hN hE hV htab ls hl
  have hl : lv_has ls 1 [(0, .ref (h0 0))] := hl
  clear eA
  rw [fX12_failedCommand] at h
  refine lv_aload_n hx hb dX12_failedCommand_0 rfl (lv_at hl 0 rfl) ?_
  refine va_get (D := D) (ci := 11) (v := .int s0.2.2.2.2.2.2.2.2.2) (C := RX12) (T := TX12) (N := 10) hx hb hts iX12 hown hK hP 0 rfl rfl 9 (by decide) (hts _ qfl_X12_48) (fun _ h9 => h9) rfl dX12_failedCommand_1 ?_
  refine lv_iconst (v := (-1)) hx hb dX12_failedCommand_4 (by decide) ?_
  refine lv_icmp_ne (tgt := 19) hx hb dX12_failedCommand_5 (by decide) (fun c1 => ?_) (fun c1 => ?_)
  · have h := x_f h c1
    refine lv_aload_n hx hb dX12_failedCommand_19 rfl (lv_at hl 0 rfl) ?_
    refine va_get (D := D) (ci := 11) (v := .int s0.2.2.2.2.2.2.2.2.2) (C := RX12) (T := TX12) (N := 10) hx hb hts iX12 hown hK hP 0 rfl rfl 9 (by decide) (hts _ qfl_X12_48) (fun _ h9 => h9) rfl dX12_failedCommand_20 ?_
    have h := Option.some.inj h
    subst h
    refine W.widen (k := 1) (n := 6) (Nat.le_of_ble_eq_true rfl) (Nat.le_of_ble_eq_true rfl) ?_
    exact vIret hx hb hr9 hlocks hP hK hD hS dX12_failedCommand_23
  · have h := x_t h c1
    have h := Option.some.inj h
    subst h
    exact vThrowN (n := 15) (text := "no command failed") (is := 382) hx hb hl9 hown hts hN hV (by decide +kernel) hK hP hD hS (hl.1.trans hml.symm) dX12_failedCommand_8 dX12_failedCommand_11 (Or.inr ⟨rfl, dX12_failedCommand_12⟩) dX12_failedCommand_15 dX12_failedCommand_18 htab (by rw [← erm]; rfl) hlocks (Nat.le_of_ble_eq_true rfl) (Nat.le_of_ble_eq_true rfl)
def fX12_writeEntry (N : Nat) (a1 : Int32) (s0 : ThlS) : Option (Nat × Int32 × ThlS) :=
  xcall (fX12_checkEntry N a1 s0) fun q1 =>
  xthr q1 (some (q1, 0, s0)) <|
  xcall (fX12_putNumber N (a1.toInt64) ((Thls6 s0 0))) fun q2 =>
  xcall (fX12_putSign N 58 q2) fun q3 =>
  xcall (fX6_debitedBy N a1 q3.1.2.1) fun q4 =>
  xcall (fX12_putNumber N (q4.toInt64) q3) fun q5 =>
  xcall (fX12_putSign N 60 q5) fun q6 =>
  xcall (fX6_creditedBy N a1 q6.1.2.1) fun q7 =>
  xcall (fX12_putNumber N (q7.toInt64) q6) fun q8 =>
  xcall (fX12_putSign N 61 q8) fun q9 =>
  xcall (fX6_amountIn N a1 q9.1.2.1) fun q10 =>
  xcall (fX12_putNumber N q10 q9) fun q11 =>
  xcall (fX6_wasReversed N a1 q11.1.2.1) fun q12 =>
  xjoin (fun (s0_13 : ThlS) =>
      some (0, s0_13.2.2.2.2.2.2.1, s0_13)
    ) fun J101 =>
  if q12 = 0 then
    J101 q11
  else
    xcall (fX12_putSign N 33 q11) fun q15 =>
    J101 q15
set_option maxRecDepth 100000 in
set_option maxHeartbeats 4000000 in
theorem kX12_writeEntry (l : Launch) (hl9 : l.stackTraces = false) (D : va_G) (cA : Nat → ClassId) (ad : Nat → Nat) (hr : Nat → Nat → Nat) (h0 : Nat → Nat) (sz N : Nat) (a1 : Int32) (s0 : ThlS) (q : Nat × Int32 × ThlS) (h : fX12_writeEntry N a1 s0 = some q) : vM l yX12_writeEntry cX12_writeEntry 2 (some .int) ({ frames := 7, cells := 1, slots := 6, locals := 111 }) D cA ad (ThlW cA ad hr h0 s0) sz [.ref (h0 0), .int a1] q.1 (some (.int q.2.1)) (ThlW cA ad hr h0 q.2.2) 1 6 := by
  generalize erm : ({ frames := 7, cells := 1, slots := 6, locals := 111 } : Room) = rm
  refine vMet (by decide) (Nat.le_of_ble_eq_true rfl) ?_
  intro p e s m below meth c hx hb hr9 hlocks hml hts hown hin hK hP A eA hD hS hA hsz hN hE hV htab ls hl
  have hl : lv_has ls 2 [(0, .ref (h0 0)), (1, .int a1)] := hl
  clear eA
  rw [fX12_writeEntry] at h
  refine lv_aload_n hx hb dX12_writeEntry_0 rfl (lv_at hl 0 rfl) ?_
  refine lv_iload_n hx hb dX12_writeEntry_1 rfl (lv_at hl 1 rfl) ?_
  obtain ⟨q1, c1, h⟩ := x_call h
  refine vCall (w2 := ThlW cA ad hr h0 s0) (vRunV (n := 1) (As := [.int a1]) (rest := []) ⟨hx, hb, hml, hown, hts⟩ (kX12_checkEntry l hl9 D cA ad hr h0 _ N a1 s0 q1 c1) qco_X12_checkEntry qml_X12_243 qin_X12_checkEntry qse_X12_checkEntry qini_X12 (by decide +kernel) (by rw [← erm]; rfl) hN hE hV hS hA hK hP hD [0, 1, 2, 3, 4, 5, 6, 7, 8, 9, 10, 11, 12, 13, 14, 15, 16, 17, 18, 19, 20, 21, 22, 23, 24, 25, 26, 27, 28, 29, 30, 31, 32, 33, 34, 35, 36, 37, 38, 39, 40, 41, 42, 43, 44, 45, 46, 47, 48, 49, 50, 51, 52, 53, 54, 55, 56, 57, 58, 59, 60] rfl rfl (q0 := 0) rfl rfl rfl rfl rfl hl.1 rfl (lv_room (Nat.le_of_ble_eq_true rfl)) dX12_writeEntry_2 ⟨by rw [← erm]; exact Nat.le_of_ble_eq_true rfl, by rw [← erm]; exact Nat.le_of_ble_eq_true rfl⟩) hP hD hS hA [0, 1, 2, 3, 4, 5, 6, 7, 8, 9, 10, 11, 12, 13, 14, 15, 16, 17, 18, 19, 20, 21, 22, 23, 24, 25, 26, 27, 28, 29, 30, 31, 32, 33, 34, 35, 36, 37, 38, 39, 40, 41, 42, 43, 44, 45, 46, 47, 48, 49, 50, 51, 52, 53, 54, 55, 56, 57, 58, 59, 60] rfl rfl (xselH [some 0, some 1, some 2, some 3, some 4, some 5, some 6, some 7, some 8, some 9, some 10, some 11, some 12, some 13, some 14, some 15, some 16, some 17, some 18, some 19, some 20, some 21, some 22, some 23, some 24, some 25, some 26, some 27, some 28, some 29, some 30, some 31, some 32, some 33, some 34, some 35, some 36, some 37, some 38, some 39, some 40, some 41, some 42, some 43, some 44, some 45, some 46, some 47, some 48, some 49, some 50, some 51, some 52, some 53, some 54, some 55, some 56, some 57, some 58, some 59, some 60] rfl (by decide +kernel)) (fun x1 q9 ce H locs hP hD hS hc1 hc2 hc3 => ?_) (fun x1 H locs hP hD hS => ?_)
  · have h := x_th1 h x1
    have h := Option.some.inj h
    subst h
    exact vOut (x := q1) htab hlocks hK hP hD hS x1 hc1 hc2 hc3 (Nat.le_of_ble_eq_true rfl) (Nat.le_of_ble_eq_true rfl)
  have h := x_th0 h x1
  refine lv_aload_n hx hb dX12_writeEntry_5 rfl (lv_at hl 0 rfl) ?_
  refine lv_iconst (v := 0) hx hb dX12_writeEntry_6 (by decide) ?_
  refine va_put (D := D) (ci := 11) (v := .int 0) (ty := .int) (C := RX12) (T := TX12) (N := 10) hx hb hts iX12 tyX12 tyX12_ok nmX12 hown hK hP hD hS 0 rfl rfl 6 (by decide) (hts _ qfl_X12_384) (fun _ h9 => h9) rfl (by decide +kernel) rfl rfl (Nat.le_of_ble_eq_true rfl) dX12_writeEntry_7 (fun H locs hP hD hS => ?_)
  have hP : va_P D vwCl (ThlW cA ad hr h0 ((Thls6 s0 0))) H := hP
  have hD : va_D A (ThlW cA ad hr h0 ((Thls6 s0 0))) := hD
  refine lv_aload_n hx hb dX12_writeEntry_10 rfl (lv_at hl 0 rfl) ?_
  refine lv_iload_n hx hb dX12_writeEntry_11 rfl (lv_at hl 1 rfl) ?_
  refine lv_i2l hx hb dX12_writeEntry_12 rfl ?_
  obtain ⟨q2, c2, h⟩ := x_call h
  refine xCallH (w2 := ThlW cA ad hr h0 q2) (zRunV (n := 1) (As := [.long (a1.toInt64)]) (rest := []) ⟨hx, hb, hml, hown, hts⟩ (kX12_putNumber l D cA ad hr h0 _ N (a1.toInt64) ((Thls6 s0 0)) q2 c2) qco_X12_putNumber qml_X12_387 qin_X12_putNumber qse_X12_putNumber qini_X12 (by decide +kernel) (by rw [← erm]; rfl) hN hE hS hA hK hP hD [0, 1, 2, 3, 4, 5, 6, 7, 8, 9, 10, 11, 12, 13, 14, 15, 16, 17, 18, 19, 20, 21, 22, 23, 24, 25, 26, 27, 28, 29, 30, 31, 32, 33, 34, 35, 36, 37, 38, 39, 40, 41, 42, 43, 44, 45, 46, 47, 48, 49, 50, 51, 52, 53, 54, 55, 56, 57, 58, 59, 60] rfl rfl (q0 := 0) rfl rfl rfl rfl rfl hl.1 rfl (lv_room (Nat.le_of_ble_eq_true rfl)) dX12_writeEntry_13 ⟨by rw [← erm]; exact Nat.le_of_ble_eq_true rfl, by rw [← erm]; exact Nat.le_of_ble_eq_true rfl⟩) hP hD hS hA [0, 1, 2, 3, 4, 5, 6, 7, 8, 9, 10, 11, 12, 13, 14, 15, 16, 17, 18, 19, 20, 21, 22, 23, 24, 25, 26, 27, 28, 29, 30, 31, 32, 33, 34, 35, 36, 37, 38, 39, 40, 41, 42, 43, 44, 45, 46, 47, 48, 49, 50, 51, 52, 53, 54, 55, 56, 57, 58, 59, 60] rfl rfl (xselH [some 0, some 1, some 2, some 3, some 4, some 5, some 6, some 7, some 8, some 9, some 10, some 11, some 12, some 13, some 14, some 15, some 16, some 17, some 18, some 19, some 20, some 21, some 22, some 23, some 24, some 25, some 26, some 27, some 28, some 29, some 30, some 31, some 32, some 33, some 34, some 35, some 36, some 37, some 38, some 39, some 40, some 41, some 42, some 43, some 44, some 45, some 46, some 47, some 48, some 49, some 50, some 51, some 52, some 53, some 54, some 55, some 56, some 57, some 58, some 59, some 60] rfl (by decide +kernel)) (fun H locs hP hD hS => ?_)
  refine lv_aload_n hx hb dX12_writeEntry_16 rfl (lv_at hl 0 rfl) ?_
  refine lv_bipush (v := 58) hx hb dX12_writeEntry_17 (by decide) ?_
  obtain ⟨q3, c3, h⟩ := x_call h
  refine xCallH (w2 := ThlW cA ad hr h0 q3) (zRunV (n := 1) (As := [.int 58]) (rest := []) ⟨hx, hb, hml, hown, hts⟩ (kX12_putSign l D cA ad hr h0 _ N 58 q2 q3 c3) qco_X12_putSign qml_X12_391 qin_X12_putSign qse_X12_putSign qini_X12 (by decide +kernel) (by rw [← erm]; rfl) hN hE hS hA hK hP hD [0, 1, 2, 3, 4, 5, 6, 7, 8, 9, 10, 11, 12, 13, 14, 15, 16, 17, 18, 19, 20, 21, 22, 23, 24, 25, 26, 27, 28, 29, 30, 31, 32, 33, 34, 35, 36, 37, 38, 39, 40, 41, 42, 43, 44, 45, 46, 47, 48, 49, 50, 51, 52, 53, 54, 55, 56, 57, 58, 59, 60] rfl rfl (q0 := 0) rfl rfl rfl rfl rfl hl.1 rfl (lv_room (Nat.le_of_ble_eq_true rfl)) dX12_writeEntry_19 ⟨by rw [← erm]; exact Nat.le_of_ble_eq_true rfl, by rw [← erm]; exact Nat.le_of_ble_eq_true rfl⟩) hP hD hS hA [0, 1, 2, 3, 4, 5, 6, 7, 8, 9, 10, 11, 12, 13, 14, 15, 16, 17, 18, 19, 20, 21, 22, 23, 24, 25, 26, 27, 28, 29, 30, 31, 32, 33, 34, 35, 36, 37, 38, 39, 40, 41, 42, 43, 44, 45, 46, 47, 48, 49, 50, 51, 52, 53, 54, 55, 56, 57, 58, 59, 60] rfl rfl (xselH [some 0, some 1, some 2, some 3, some 4, some 5, some 6, some 7, some 8, some 9, some 10, some 11, some 12, some 13, some 14, some 15, some 16, some 17, some 18, some 19, some 20, some 21, some 22, some 23, some 24, some 25, some 26, some 27, some 28, some 29, some 30, some 31, some 32, some 33, some 34, some 35, some 36, some 37, some 38, some 39, some 40, some 41, some 42, some 43, some 44, some 45, some 46, some 47, some 48, some 49, some 50, some 51, some 52, some 53, some 54, some 55, some 56, some 57, some 58, some 59, some 60] rfl (by decide +kernel)) (fun H locs hP hD hS => ?_)
  refine lv_aload_n hx hb dX12_writeEntry_22 rfl (lv_at hl 0 rfl) ?_
  refine lv_aload_n hx hb dX12_writeEntry_23 rfl (lv_at hl 0 rfl) ?_
  refine va_get (D := D) (ci := 11) (v := .ref (h0 1)) (C := RX12) (T := TX12) (N := 10) hx hb hts iX12 hown hK hP 0 rfl rfl 0 (by decide) (hts _ qfl_X12_10) (fun _ h9 => h9) rfl dX12_writeEntry_24 ?_
  refine va_getN (D := D) (ci := 4) (v := .ref (h0 7)) (C := RX3) (T := TX3) (N := 7) hx hb hts iX3 hown hK hP 1 rfl rfl 1 (by decide) (hN.use qfn_X12_88) (fun _ h9 => h9) rfl dX12_writeEntry_27 ?_
  refine lv_iload_n hx hb dX12_writeEntry_30 rfl (lv_at hl 1 rfl) ?_
  obtain ⟨q4, c4, h⟩ := x_call h
  refine xCallH (w2 := ThlW cA ad hr h0 q3) (zRunV (n := 1) (As := [.int a1]) (rest := [.ref (h0 0)]) ⟨hx, hb, hml, hown, hts⟩ (kX6_debitedBy l D cA ad (fun k => h0 (k + 7)) _ N a1 q3.1.2.1 q4 c4) qco_X6_debitedBy qml_X12_246 qin_X6_debitedBy qse_X6_debitedBy qini_X6 (by decide +kernel) (by rw [← erm]; rfl) hN hE hS hA hK hP hD [7, 8, 9, 10, 11, 12] rfl rfl (q0 := 0) rfl rfl rfl rfl rfl hl.1 rfl (lv_room (Nat.le_of_ble_eq_true rfl)) dX12_writeEntry_31 ⟨by rw [← erm]; exact Nat.le_of_ble_eq_true rfl, by rw [← erm]; exact Nat.le_of_ble_eq_true rfl⟩) hP hD hS hA [7, 8, 9, 10, 11, 12] rfl rfl (xselH [none, none, none, none, none, none, none, some 0, some 1, some 2, some 3, some 4, some 5, none, none, none, none, none, none, none, none, none, none, none, none, none, none, none, none, none, none, none, none, none, none, none, none, none, none, none, none, none, none, none, none, none, none, none, none, none, none, none, none, none, none, none, none, none, none, none, none] rfl (by decide +kernel)) (fun H locs hP hD hS => ?_)
  refine lv_i2l hx hb dX12_writeEntry_34 rfl ?_
  obtain ⟨q5, c5, h⟩ := x_call h
  refine xCallH (w2 := ThlW cA ad hr h0 q5) (zRunV (n := 1) (As := [.long (q4.toInt64)]) (rest := []) ⟨hx, hb, hml, hown, hts⟩ (kX12_putNumber l D cA ad hr h0 _ N (q4.toInt64) q3 q5 c5) qco_X12_putNumber qml_X12_387 qin_X12_putNumber qse_X12_putNumber qini_X12 (by decide +kernel) (by rw [← erm]; rfl) hN hE hS hA hK hP hD [0, 1, 2, 3, 4, 5, 6, 7, 8, 9, 10, 11, 12, 13, 14, 15, 16, 17, 18, 19, 20, 21, 22, 23, 24, 25, 26, 27, 28, 29, 30, 31, 32, 33, 34, 35, 36, 37, 38, 39, 40, 41, 42, 43, 44, 45, 46, 47, 48, 49, 50, 51, 52, 53, 54, 55, 56, 57, 58, 59, 60] rfl rfl (q0 := 0) rfl rfl rfl rfl rfl hl.1 rfl (lv_room (Nat.le_of_ble_eq_true rfl)) dX12_writeEntry_35 ⟨by rw [← erm]; exact Nat.le_of_ble_eq_true rfl, by rw [← erm]; exact Nat.le_of_ble_eq_true rfl⟩) hP hD hS hA [0, 1, 2, 3, 4, 5, 6, 7, 8, 9, 10, 11, 12, 13, 14, 15, 16, 17, 18, 19, 20, 21, 22, 23, 24, 25, 26, 27, 28, 29, 30, 31, 32, 33, 34, 35, 36, 37, 38, 39, 40, 41, 42, 43, 44, 45, 46, 47, 48, 49, 50, 51, 52, 53, 54, 55, 56, 57, 58, 59, 60] rfl rfl (xselH [some 0, some 1, some 2, some 3, some 4, some 5, some 6, some 7, some 8, some 9, some 10, some 11, some 12, some 13, some 14, some 15, some 16, some 17, some 18, some 19, some 20, some 21, some 22, some 23, some 24, some 25, some 26, some 27, some 28, some 29, some 30, some 31, some 32, some 33, some 34, some 35, some 36, some 37, some 38, some 39, some 40, some 41, some 42, some 43, some 44, some 45, some 46, some 47, some 48, some 49, some 50, some 51, some 52, some 53, some 54, some 55, some 56, some 57, some 58, some 59, some 60] rfl (by decide +kernel)) (fun H locs hP hD hS => ?_)
  refine lv_aload_n hx hb dX12_writeEntry_38 rfl (lv_at hl 0 rfl) ?_
  refine lv_bipush (v := 60) hx hb dX12_writeEntry_39 (by decide) ?_
  obtain ⟨q6, c6, h⟩ := x_call h
  refine xCallH (w2 := ThlW cA ad hr h0 q6) (zRunV (n := 1) (As := [.int 60]) (rest := []) ⟨hx, hb, hml, hown, hts⟩ (kX12_putSign l D cA ad hr h0 _ N 60 q5 q6 c6) qco_X12_putSign qml_X12_391 qin_X12_putSign qse_X12_putSign qini_X12 (by decide +kernel) (by rw [← erm]; rfl) hN hE hS hA hK hP hD [0, 1, 2, 3, 4, 5, 6, 7, 8, 9, 10, 11, 12, 13, 14, 15, 16, 17, 18, 19, 20, 21, 22, 23, 24, 25, 26, 27, 28, 29, 30, 31, 32, 33, 34, 35, 36, 37, 38, 39, 40, 41, 42, 43, 44, 45, 46, 47, 48, 49, 50, 51, 52, 53, 54, 55, 56, 57, 58, 59, 60] rfl rfl (q0 := 0) rfl rfl rfl rfl rfl hl.1 rfl (lv_room (Nat.le_of_ble_eq_true rfl)) dX12_writeEntry_41 ⟨by rw [← erm]; exact Nat.le_of_ble_eq_true rfl, by rw [← erm]; exact Nat.le_of_ble_eq_true rfl⟩) hP hD hS hA [0, 1, 2, 3, 4, 5, 6, 7, 8, 9, 10, 11, 12, 13, 14, 15, 16, 17, 18, 19, 20, 21, 22, 23, 24, 25, 26, 27, 28, 29, 30, 31, 32, 33, 34, 35, 36, 37, 38, 39, 40, 41, 42, 43, 44, 45, 46, 47, 48, 49, 50, 51, 52, 53, 54, 55, 56, 57, 58, 59, 60] rfl rfl (xselH [some 0, some 1, some 2, some 3, some 4, some 5, some 6, some 7, some 8, some 9, some 10, some 11, some 12, some 13, some 14, some 15, some 16, some 17, some 18, some 19, some 20, some 21, some 22, some 23, some 24, some 25, some 26, some 27, some 28, some 29, some 30, some 31, some 32, some 33, some 34, some 35, some 36, some 37, some 38, some 39, some 40, some 41, some 42, some 43, some 44, some 45, some 46, some 47, some 48, some 49, some 50, some 51, some 52, some 53, some 54, some 55, some 56, some 57, some 58, some 59, some 60] rfl (by decide +kernel)) (fun H locs hP hD hS => ?_)
  refine lv_aload_n hx hb dX12_writeEntry_44 rfl (lv_at hl 0 rfl) ?_
  refine lv_aload_n hx hb dX12_writeEntry_45 rfl (lv_at hl 0 rfl) ?_
  refine va_get (D := D) (ci := 11) (v := .ref (h0 1)) (C := RX12) (T := TX12) (N := 10) hx hb hts iX12 hown hK hP 0 rfl rfl 0 (by decide) (hts _ qfl_X12_10) (fun _ h9 => h9) rfl dX12_writeEntry_46 ?_
  refine va_getN (D := D) (ci := 4) (v := .ref (h0 7)) (C := RX3) (T := TX3) (N := 7) hx hb hts iX3 hown hK hP 1 rfl rfl 1 (by decide) (hN.use qfn_X12_88) (fun _ h9 => h9) rfl dX12_writeEntry_49 ?_
  refine lv_iload_n hx hb dX12_writeEntry_52 rfl (lv_at hl 1 rfl) ?_
  obtain ⟨q7, c7, h⟩ := x_call h
  refine xCallH (w2 := ThlW cA ad hr h0 q6) (zRunV (n := 1) (As := [.int a1]) (rest := [.ref (h0 0)]) ⟨hx, hb, hml, hown, hts⟩ (kX6_creditedBy l D cA ad (fun k => h0 (k + 7)) _ N a1 q6.1.2.1 q7 c7) qco_X6_creditedBy qml_X12_249 qin_X6_creditedBy qse_X6_creditedBy qini_X6 (by decide +kernel) (by rw [← erm]; rfl) hN hE hS hA hK hP hD [7, 8, 9, 10, 11, 12] rfl rfl (q0 := 0) rfl rfl rfl rfl rfl hl.1 rfl (lv_room (Nat.le_of_ble_eq_true rfl)) dX12_writeEntry_53 ⟨by rw [← erm]; exact Nat.le_of_ble_eq_true rfl, by rw [← erm]; exact Nat.le_of_ble_eq_true rfl⟩) hP hD hS hA [7, 8, 9, 10, 11, 12] rfl rfl (xselH [none, none, none, none, none, none, none, some 0, some 1, some 2, some 3, some 4, some 5, none, none, none, none, none, none, none, none, none, none, none, none, none, none, none, none, none, none, none, none, none, none, none, none, none, none, none, none, none, none, none, none, none, none, none, none, none, none, none, none, none, none, none, none, none, none, none, none] rfl (by decide +kernel)) (fun H locs hP hD hS => ?_)
  refine lv_i2l hx hb dX12_writeEntry_56 rfl ?_
  obtain ⟨q8, c8, h⟩ := x_call h
  refine xCallH (w2 := ThlW cA ad hr h0 q8) (zRunV (n := 1) (As := [.long (q7.toInt64)]) (rest := []) ⟨hx, hb, hml, hown, hts⟩ (kX12_putNumber l D cA ad hr h0 _ N (q7.toInt64) q6 q8 c8) qco_X12_putNumber qml_X12_387 qin_X12_putNumber qse_X12_putNumber qini_X12 (by decide +kernel) (by rw [← erm]; rfl) hN hE hS hA hK hP hD [0, 1, 2, 3, 4, 5, 6, 7, 8, 9, 10, 11, 12, 13, 14, 15, 16, 17, 18, 19, 20, 21, 22, 23, 24, 25, 26, 27, 28, 29, 30, 31, 32, 33, 34, 35, 36, 37, 38, 39, 40, 41, 42, 43, 44, 45, 46, 47, 48, 49, 50, 51, 52, 53, 54, 55, 56, 57, 58, 59, 60] rfl rfl (q0 := 0) rfl rfl rfl rfl rfl hl.1 rfl (lv_room (Nat.le_of_ble_eq_true rfl)) dX12_writeEntry_57 ⟨by rw [← erm]; exact Nat.le_of_ble_eq_true rfl, by rw [← erm]; exact Nat.le_of_ble_eq_true rfl⟩) hP hD hS hA [0, 1, 2, 3, 4, 5, 6, 7, 8, 9, 10, 11, 12, 13, 14, 15, 16, 17, 18, 19, 20, 21, 22, 23, 24, 25, 26, 27, 28, 29, 30, 31, 32, 33, 34, 35, 36, 37, 38, 39, 40, 41, 42, 43, 44, 45, 46, 47, 48, 49, 50, 51, 52, 53, 54, 55, 56, 57, 58, 59, 60] rfl rfl (xselH [some 0, some 1, some 2, some 3, some 4, some 5, some 6, some 7, some 8, some 9, some 10, some 11, some 12, some 13, some 14, some 15, some 16, some 17, some 18, some 19, some 20, some 21, some 22, some 23, some 24, some 25, some 26, some 27, some 28, some 29, some 30, some 31, some 32, some 33, some 34, some 35, some 36, some 37, some 38, some 39, some 40, some 41, some 42, some 43, some 44, some 45, some 46, some 47, some 48, some 49, some 50, some 51, some 52, some 53, some 54, some 55, some 56, some 57, some 58, some 59, some 60] rfl (by decide +kernel)) (fun H locs hP hD hS => ?_)
  refine lv_aload_n hx hb dX12_writeEntry_60 rfl (lv_at hl 0 rfl) ?_
  refine lv_bipush (v := 61) hx hb dX12_writeEntry_61 (by decide) ?_
  obtain ⟨q9, c9, h⟩ := x_call h
  refine xCallH (w2 := ThlW cA ad hr h0 q9) (zRunV (n := 1) (As := [.int 61]) (rest := []) ⟨hx, hb, hml, hown, hts⟩ (kX12_putSign l D cA ad hr h0 _ N 61 q8 q9 c9) qco_X12_putSign qml_X12_391 qin_X12_putSign qse_X12_putSign qini_X12 (by decide +kernel) (by rw [← erm]; rfl) hN hE hS hA hK hP hD [0, 1, 2, 3, 4, 5, 6, 7, 8, 9, 10, 11, 12, 13, 14, 15, 16, 17, 18, 19, 20, 21, 22, 23, 24, 25, 26, 27, 28, 29, 30, 31, 32, 33, 34, 35, 36, 37, 38, 39, 40, 41, 42, 43, 44, 45, 46, 47, 48, 49, 50, 51, 52, 53, 54, 55, 56, 57, 58, 59, 60] rfl rfl (q0 := 0) rfl rfl rfl rfl rfl hl.1 rfl (lv_room (Nat.le_of_ble_eq_true rfl)) dX12_writeEntry_63 ⟨by rw [← erm]; exact Nat.le_of_ble_eq_true rfl, by rw [← erm]; exact Nat.le_of_ble_eq_true rfl⟩) hP hD hS hA [0, 1, 2, 3, 4, 5, 6, 7, 8, 9, 10, 11, 12, 13, 14, 15, 16, 17, 18, 19, 20, 21, 22, 23, 24, 25, 26, 27, 28, 29, 30, 31, 32, 33, 34, 35, 36, 37, 38, 39, 40, 41, 42, 43, 44, 45, 46, 47, 48, 49, 50, 51, 52, 53, 54, 55, 56, 57, 58, 59, 60] rfl rfl (xselH [some 0, some 1, some 2, some 3, some 4, some 5, some 6, some 7, some 8, some 9, some 10, some 11, some 12, some 13, some 14, some 15, some 16, some 17, some 18, some 19, some 20, some 21, some 22, some 23, some 24, some 25, some 26, some 27, some 28, some 29, some 30, some 31, some 32, some 33, some 34, some 35, some 36, some 37, some 38, some 39, some 40, some 41, some 42, some 43, some 44, some 45, some 46, some 47, some 48, some 49, some 50, some 51, some 52, some 53, some 54, some 55, some 56, some 57, some 58, some 59, some 60] rfl (by decide +kernel)) (fun H locs hP hD hS => ?_)
  refine lv_aload_n hx hb dX12_writeEntry_66 rfl (lv_at hl 0 rfl) ?_
  refine lv_aload_n hx hb dX12_writeEntry_67 rfl (lv_at hl 0 rfl) ?_
  refine va_get (D := D) (ci := 11) (v := .ref (h0 1)) (C := RX12) (T := TX12) (N := 10) hx hb hts iX12 hown hK hP 0 rfl rfl 0 (by decide) (hts _ qfl_X12_10) (fun _ h9 => h9) rfl dX12_writeEntry_68 ?_
  refine va_getN (D := D) (ci := 4) (v := .ref (h0 7)) (C := RX3) (T := TX3) (N := 7) hx hb hts iX3 hown hK hP 1 rfl rfl 1 (by decide) (hN.use qfn_X12_88) (fun _ h9 => h9) rfl dX12_writeEntry_71 ?_
  refine lv_iload_n hx hb dX12_writeEntry_74 rfl (lv_at hl 1 rfl) ?_
  obtain ⟨q10, c10, h⟩ := x_call h
  refine xCallH (w2 := ThlW cA ad hr h0 q9) (zRunV (n := 1) (As := [.int a1]) (rest := [.ref (h0 0)]) ⟨hx, hb, hml, hown, hts⟩ (kX6_amountIn l D cA ad (fun k => h0 (k + 7)) _ N a1 q9.1.2.1 q10 c10) qco_X6_amountIn qml_X12_252 qin_X6_amountIn qse_X6_amountIn qini_X6 (by decide +kernel) (by rw [← erm]; rfl) hN hE hS hA hK hP hD [7, 8, 9, 10, 11, 12] rfl rfl (q0 := 0) rfl rfl rfl rfl rfl hl.1 rfl (lv_room (Nat.le_of_ble_eq_true rfl)) dX12_writeEntry_75 ⟨by rw [← erm]; exact Nat.le_of_ble_eq_true rfl, by rw [← erm]; exact Nat.le_of_ble_eq_true rfl⟩) hP hD hS hA [7, 8, 9, 10, 11, 12] rfl rfl (xselH [none, none, none, none, none, none, none, some 0, some 1, some 2, some 3, some 4, some 5, none, none, none, none, none, none, none, none, none, none, none, none, none, none, none, none, none, none, none, none, none, none, none, none, none, none, none, none, none, none, none, none, none, none, none, none, none, none, none, none, none, none, none, none, none, none, none, none] rfl (by decide +kernel)) (fun H locs hP hD hS => ?_)
  obtain ⟨q11, c11, h⟩ := x_call h
  refine xCallH (w2 := ThlW cA ad hr h0 q11) (zRunV (n := 1) (As := [.long q10]) (rest := []) ⟨hx, hb, hml, hown, hts⟩ (kX12_putNumber l D cA ad hr h0 _ N q10 q9 q11 c11) qco_X12_putNumber qml_X12_387 qin_X12_putNumber qse_X12_putNumber qini_X12 (by decide +kernel) (by rw [← erm]; rfl) hN hE hS hA hK hP hD [0, 1, 2, 3, 4, 5, 6, 7, 8, 9, 10, 11, 12, 13, 14, 15, 16, 17, 18, 19, 20, 21, 22, 23, 24, 25, 26, 27, 28, 29, 30, 31, 32, 33, 34, 35, 36, 37, 38, 39, 40, 41, 42, 43, 44, 45, 46, 47, 48, 49, 50, 51, 52, 53, 54, 55, 56, 57, 58, 59, 60] rfl rfl (q0 := 0) rfl rfl rfl rfl rfl hl.1 rfl (lv_room (Nat.le_of_ble_eq_true rfl)) dX12_writeEntry_78 ⟨by rw [← erm]; exact Nat.le_of_ble_eq_true rfl, by rw [← erm]; exact Nat.le_of_ble_eq_true rfl⟩) hP hD hS hA [0, 1, 2, 3, 4, 5, 6, 7, 8, 9, 10, 11, 12, 13, 14, 15, 16, 17, 18, 19, 20, 21, 22, 23, 24, 25, 26, 27, 28, 29, 30, 31, 32, 33, 34, 35, 36, 37, 38, 39, 40, 41, 42, 43, 44, 45, 46, 47, 48, 49, 50, 51, 52, 53, 54, 55, 56, 57, 58, 59, 60] rfl rfl (xselH [some 0, some 1, some 2, some 3, some 4, some 5, some 6, some 7, some 8, some 9, some 10, some 11, some 12, some 13, some 14, some 15, some 16, some 17, some 18, some 19, some 20, some 21, some 22, some 23, some 24, some 25, some 26, some 27, some 28, some 29, some 30, some 31, some 32, some 33, some 34, some 35, some 36, some 37, some 38, some 39, some 40, some 41, some 42, some 43, some 44, some 45, some 46, some 47, some 48, some 49, some 50, some 51, some 52, some 53, some 54, some 55, some 56, some 57, some 58, some 59, some 60] rfl (by decide +kernel)) (fun H locs hP hD hS => ?_)
  refine lv_aload_n hx hb dX12_writeEntry_81 rfl (lv_at hl 0 rfl) ?_
  refine va_get (D := D) (ci := 11) (v := .ref (h0 1)) (C := RX12) (T := TX12) (N := 10) hx hb hts iX12 hown hK hP 0 rfl rfl 0 (by decide) (hts _ qfl_X12_10) (fun _ h9 => h9) rfl dX12_writeEntry_82 ?_
  refine va_getN (D := D) (ci := 4) (v := .ref (h0 7)) (C := RX3) (T := TX3) (N := 7) hx hb hts iX3 hown hK hP 1 rfl rfl 1 (by decide) (hN.use qfn_X12_88) (fun _ h9 => h9) rfl dX12_writeEntry_85 ?_
  refine lv_iload_n hx hb dX12_writeEntry_88 rfl (lv_at hl 1 rfl) ?_
  obtain ⟨q12, c12, h⟩ := x_call h
  refine xCallH (w2 := ThlW cA ad hr h0 q11) (zRunV (n := 1) (As := [.int a1]) (rest := []) ⟨hx, hb, hml, hown, hts⟩ (kX6_wasReversed l D cA ad (fun k => h0 (k + 7)) _ N a1 q11.1.2.1 q12 c12) qco_X6_wasReversed qml_X12_258 qin_X6_wasReversed qse_X6_wasReversed qini_X6 (by decide +kernel) (by rw [← erm]; rfl) hN hE hS hA hK hP hD [7, 8, 9, 10, 11, 12] rfl rfl (q0 := 0) rfl rfl rfl rfl rfl hl.1 rfl (lv_room (Nat.le_of_ble_eq_true rfl)) dX12_writeEntry_89 ⟨by rw [← erm]; exact Nat.le_of_ble_eq_true rfl, by rw [← erm]; exact Nat.le_of_ble_eq_true rfl⟩) hP hD hS hA [7, 8, 9, 10, 11, 12] rfl rfl (xselH [none, none, none, none, none, none, none, some 0, some 1, some 2, some 3, some 4, some 5, none, none, none, none, none, none, none, none, none, none, none, none, none, none, none, none, none, none, none, none, none, none, none, none, none, none, none, none, none, none, none, none, none, none, none, none, none, none, none, none, none, none, none, none, none, none, none, none] rfl (by decide +kernel)) (fun H locs hP hD hS => ?_)
  obtain ⟨J101, eJ101, h⟩ := x_join h
  have hJ_J101 : ∀ (s0_13 : ThlS) (H : Heap) (locs : List Loc), va_P D vwCl (ThlW cA ad hr h0 s0_13) H → va_D A (ThlW cA ad hr h0 s0_13) → va_S A s.heap H locs → ∀ ls : Array Slot, lv_has ls 2 [(0, .ref (h0 0))] → J101 s0_13 = some q → W p l e rm s m ([.ref (h0 0), .int a1] : List Value).toArray below meth c H locs 1 6 (vx_MQ below (vQc D cA A q.1 (ThlW cA ad hr h0 q.2.2) (some (.int q.2.1))) (vXc D cA A q.1 (ThlW cA ad hr h0 q.2.2)) ([.ref (h0 0), .int a1] : List Value).toArray s 1 6 A) (F0 m 101 ls []) := by
    clear h hP hD hS hl
    intro s0_13 H locs hP hD hS ls hl h
    rw [eJ101] at h
    refine lv_aload_n hx hb dX12_writeEntry_101 rfl (lv_at hl 0 rfl) ?_
    refine va_get (D := D) (ci := 11) (v := .int s0_13.2.2.2.2.2.2.1) (C := RX12) (T := TX12) (N := 10) hx hb hts iX12 hown hK hP 0 rfl rfl 6 (by decide) (hts _ qfl_X12_384) (fun _ h9 => h9) rfl dX12_writeEntry_102 ?_
    have h := Option.some.inj h
    subst h
    refine W.widen (k := 1) (n := 6) (Nat.le_of_ble_eq_true rfl) (Nat.le_of_ble_eq_true rfl) ?_
    exact vIret hx hb hr9 hlocks hP hK hD hS dX12_writeEntry_105
  refine lv_if_eq (tgt := 101) hx hb dX12_writeEntry_92 (by decide) (fun c14 => ?_) (fun c14 => ?_)
  · have h := x_t h c14
    exact hJ_J101 q11 _ _ hP hD hS _ (lv_sub hl [0] rfl) h
  · have h := x_f h c14
    refine lv_aload_n hx hb dX12_writeEntry_95 rfl (lv_at hl 0 rfl) ?_
    refine lv_bipush (v := 33) hx hb dX12_writeEntry_96 (by decide) ?_
    obtain ⟨q15, c15, h⟩ := x_call h
    refine xCallH (w2 := ThlW cA ad hr h0 q15) (zRunV (n := 1) (As := [.int 33]) (rest := []) ⟨hx, hb, hml, hown, hts⟩ (kX12_putSign l D cA ad hr h0 _ N 33 q11 q15 c15) qco_X12_putSign qml_X12_391 qin_X12_putSign qse_X12_putSign qini_X12 (by decide +kernel) (by rw [← erm]; rfl) hN hE hS hA hK hP hD [0, 1, 2, 3, 4, 5, 6, 7, 8, 9, 10, 11, 12, 13, 14, 15, 16, 17, 18, 19, 20, 21, 22, 23, 24, 25, 26, 27, 28, 29, 30, 31, 32, 33, 34, 35, 36, 37, 38, 39, 40, 41, 42, 43, 44, 45, 46, 47, 48, 49, 50, 51, 52, 53, 54, 55, 56, 57, 58, 59, 60] rfl rfl (q0 := 0) rfl rfl rfl rfl rfl hl.1 rfl (lv_room (Nat.le_of_ble_eq_true rfl)) dX12_writeEntry_98 ⟨by rw [← erm]; exact Nat.le_of_ble_eq_true rfl, by rw [← erm]; exact Nat.le_of_ble_eq_true rfl⟩) hP hD hS hA [0, 1, 2, 3, 4, 5, 6, 7, 8, 9, 10, 11, 12, 13, 14, 15, 16, 17, 18, 19, 20, 21, 22, 23, 24, 25, 26, 27, 28, 29, 30, 31, 32, 33, 34, 35, 36, 37, 38, 39, 40, 41, 42, 43, 44, 45, 46, 47, 48, 49, 50, 51, 52, 53, 54, 55, 56, 57, 58, 59, 60] rfl rfl (xselH [some 0, some 1, some 2, some 3, some 4, some 5, some 6, some 7, some 8, some 9, some 10, some 11, some 12, some 13, some 14, some 15, some 16, some 17, some 18, some 19, some 20, some 21, some 22, some 23, some 24, some 25, some 26, some 27, some 28, some 29, some 30, some 31, some 32, some 33, some 34, some 35, some 36, some 37, some 38, some 39, some 40, some 41, some 42, some 43, some 44, some 45, some 46, some 47, some 48, some 49, some 50, some 51, some 52, some 53, some 54, some 55, some 56, some 57, some 58, some 59, some 60] rfl (by decide +kernel)) (fun H locs hP hD hS => ?_)
    exact hJ_J101 q15 _ _ hP hD hS _ (lv_sub hl [0] rfl) h
def fX12_outputChar (N : Nat) (a1 : Int32) (s0 : ThlS) : Option (Nat × Int32) :=
  xcall (fX12_isWithin N a1 0 (s0.2.2.2.2.2.2.1 - 1)) fun q1 =>
  if q1 = 0 then
    some (1, 0)
  else
    xrd 37 a1 fun k3 =>
    xnz (xnar .char (s0.2.2.2.2.2.1 k3)) <|
    some (0, s0.2.2.2.2.2.1 k3)
set_option maxRecDepth 100000 in
set_option maxHeartbeats 4000000 in
theorem kX12_outputChar (l : Launch) (hl9 : l.stackTraces = false) (D : va_G) (cA : Nat → ClassId) (ad : Nat → Nat) (hr : Nat → Nat → Nat) (h0 : Nat → Nat) (sz N : Nat) (a1 : Int32) (s0 : ThlS) (q : Nat × Int32) (h : fX12_outputChar N a1 s0 = some q) : vM l yX12_outputChar cX12_outputChar 2 (some .char) ({ frames := 6, cells := 1, slots := 6, locals := 90 }) D cA ad (ThlW cA ad hr h0 s0) sz [.ref (h0 0), .int a1] q.1 (some (.int q.2)) (ThlW cA ad hr h0 s0) 1 6 := by
  generalize erm : ({ frames := 6, cells := 1, slots := 6, locals := 90 } : Room) = rm
  refine vMet (by decide) (Nat.le_of_ble_eq_true rfl) ?_
  intro p e s m below meth c hx hb hr9 hlocks hml hts hown hin hK hP A eA hD hS hA hsz hN hE hV htab ls hl
  have hl : lv_has ls 2 [(0, .ref (h0 0)), (1, .int a1)] := hl
  clear eA
  rw [fX12_outputChar] at h
  refine lv_iload_n hx hb dX12_outputChar_0 rfl (lv_at hl 1 rfl) ?_
  refine lv_iconst (v := 0) hx hb dX12_outputChar_1 (by decide) ?_
  refine lv_aload_n hx hb dX12_outputChar_2 rfl (lv_at hl 0 rfl) ?_
  refine va_get (D := D) (ci := 11) (v := .int s0.2.2.2.2.2.2.1) (C := RX12) (T := TX12) (N := 10) hx hb hts iX12 hown hK hP 0 rfl rfl 6 (by decide) (hts _ qfl_X12_384) (fun _ h9 => h9) rfl dX12_outputChar_3 ?_
  refine lv_iconst (v := 1) hx hb dX12_outputChar_6 (by decide) ?_
  refine lv_isub hx hb dX12_outputChar_7 ?_
  obtain ⟨q1, c1, h⟩ := x_call h
  refine xCallH (w2 := ThlW cA ad hr h0 s0) (xRunS (n := 3) (As := [.int a1, .int 0, .int (s0.2.2.2.2.2.2.1 - 1)]) (rest := []) ⟨hx, hb, hml, hown, hts⟩ (kX12_isWithin l D cA  _ N a1 0 (s0.2.2.2.2.2.2.1 - 1) q1 c1) qco_X12_isWithin qml_X12_217 qst_X12_isWithin qini_X12 (by decide +kernel) (by rw [← erm]; rfl) hK hP hD [] rfl rfl rfl rfl hl.1 rfl (lv_room (Nat.le_of_ble_eq_true rfl)) dX12_outputChar_8 ⟨Nat.zero_le _, Nat.zero_le _⟩) hP hD hS hA [] rfl rfl (xselH [none, none, none, none, none, none, none, none, none, none, none, none, none, none, none, none, none, none, none, none, none, none, none, none, none, none, none, none, none, none, none, none, none, none, none, none, none, none, none, none, none, none, none, none, none, none, none, none, none, none, none, none, none, none, none, none, none, none, none, none, none] rfl (by decide +kernel)) (fun H locs hP hD hS => ?_)
  refine lv_if_ne (tgt := 25) hx hb dX12_outputChar_11 (by decide) (fun c2 => ?_) (fun c2 => ?_)
  · have h := x_f h c2
    refine lv_aload_n hx hb dX12_outputChar_25 rfl (lv_at hl 0 rfl) ?_
    refine va_get (D := D) (ci := 11) (v := .ref (h0 60)) (C := RX12) (T := TX12) (N := 10) hx hb hts iX12 hown hK hP 0 rfl rfl 5 (by decide) (hts _ qfl_X12_40) (fun _ h9 => h9) rfl dX12_outputChar_26 ?_
    refine lv_iload_n hx hb dX12_outputChar_29 rfl (lv_at hl 1 rfl) ?_
    obtain ⟨k3, hk3, h⟩ := x_rd h
    refine xCald hx hb hK hP 60 1 rfl rfl hk3 dX12_outputChar_30 ?_
    obtain ⟨z4, h⟩ := x_nz h
    have h := Option.some.inj h
    subst h
    refine W.widen (k := 1) (n := 6) (Nat.le_of_ble_eq_true rfl) (Nat.le_of_ble_eq_true rfl) ?_
    exact vZret hx hb hr9 hlocks (xnar_n z4) hP hK hD hS dX12_outputChar_31
  · have h := x_t h c2
    have h := Option.some.inj h
    subst h
    exact vThrowW (x := 1) (text := "no such character of the output") (is := 397) hx hb hl9 hown hts hN hV hA (by decide) xThr1 xThg1 (by decide +kernel) hK hP hD hS (hl.1.trans hml.symm) dX12_outputChar_14 dX12_outputChar_17 dX12_outputChar_18 dX12_outputChar_21 dX12_outputChar_24 htab (by rw [← erm]; rfl) hlocks (by decide) (Nat.le_of_ble_eq_true rfl) (Nat.le_of_ble_eq_true rfl)
def fX12_undo (N : Nat)  (s0 : ThlS) (s1 : (Nat → BooS)) : Option (Nat × Int32 × ThlS × (Nat → BooS)) :=
  if s0.2.2.1.2 = 0 then
    some (4, 0, s0, s1)
  else
    xcall (fX5_stepBack N s0.2.2.1 s0.1 s1) fun q2 =>
    some (0, q2.1.2, (Thls2 (Thls0 s0 q2.2.1) q2.1), q2.2.2)
set_option maxRecDepth 100000 in
set_option maxHeartbeats 4000000 in
theorem kX12_undo (l : Launch) (hl9 : l.stackTraces = false) (D : va_G) (cA : Nat → ClassId) (ad : Nat → Nat) (hr : Nat → Nat → Nat) (h0 : Nat → Nat) (sz N : Nat)  (s0 : ThlS) (s1 : (Nat → BooS)) (q : Nat × Int32 × ThlS × (Nat → BooS)) (h : fX12_undo N s0 s1 = some q) : vM l yX12_undo cX12_undo 1 (some .int) ({ frames := 6, cells := 1, slots := 6, locals := 124 }) D cA ad (ThlW cA ad hr h0 s0 ++ RowW cA hr s1) sz [.ref (h0 0)] q.1 (some (.int q.2.1)) (ThlW cA ad hr h0 q.2.2.1 ++ RowW cA hr q.2.2.2) 1 6 := by
  generalize erm : ({ frames := 6, cells := 1, slots := 6, locals := 124 } : Room) = rm
  refine vMet (by decide) (Nat.le_of_ble_eq_true rfl) ?_
  intro p e s m below meth c hx hb hr9 hlocks hml hts hown hin hK hP A eA hD hS hA hsz hN hE hV htab ls hl
  have hl : lv_has ls 1 [(0, .ref (h0 0))] := hl
  clear eA
  rw [fX12_undo] at h
  refine lv_aload_n hx hb dX12_undo_0 rfl (lv_at hl 0 rfl) ?_
  refine va_get (D := D) (ci := 11) (v := .ref (h0 51)) (C := RX12) (T := TX12) (N := 10) hx hb hts iX12 hown hK hP 0 rfl rfl 2 (by decide) (hts _ qfl_X12_22) (fun _ h9 => h9) rfl dX12_undo_1 ?_
  refine va_getN (D := D) (ci := 5) (v := .int s0.2.2.1.2) (C := RX5) (T := TX5) (N := 3) hx hb hts iX5 hown hK hP 51 rfl rfl 2 (by decide) (hN.use qfn_X12_400) (fun _ h9 => h9) rfl dX12_undo_4 ?_
  refine lv_if_ne (tgt := 21) hx hb dX12_undo_7 (by decide) (fun c1 => ?_) (fun c1 => ?_)
  · have h := x_f h c1
    refine lv_aload_n hx hb dX12_undo_21 rfl (lv_at hl 0 rfl) ?_
    refine va_get (D := D) (ci := 11) (v := .ref (h0 51)) (C := RX12) (T := TX12) (N := 10) hx hb hts iX12 hown hK hP 0 rfl rfl 2 (by decide) (hts _ qfl_X12_22) (fun _ h9 => h9) rfl dX12_undo_22 ?_
    refine lv_aload_n hx hb dX12_undo_25 rfl (lv_at hl 0 rfl) ?_
    refine va_get (D := D) (ci := 11) (v := .ref (h0 1)) (C := RX12) (T := TX12) (N := 10) hx hb hts iX12 hown hK hP 0 rfl rfl 0 (by decide) (hts _ qfl_X12_10) (fun _ h9 => h9) rfl dX12_undo_26 ?_
    obtain ⟨q2, c2, h⟩ := x_call h
    refine xCallH (w2 := ThlW cA ad hr h0 ((Thls2 (Thls0 s0 q2.2.1) q2.1)) ++ RowW cA hr q2.2.2) (zRunV (n := 1) (As := [.ref (h0 1)]) (rest := []) ⟨hx, hb, hml, hown, hts⟩ (kX5_stepBack l D cA ad hr (fun k => h0 (k + 51)) (fun k => h0 (k + 1)) _ N s0.2.2.1 s0.1 s1 q2 c2) qco_X5_stepBack qml_X12_403 qin_X5_stepBack qse_X5_stepBack qini_X5 (by decide +kernel) (by rw [← erm]; rfl) hN hE hS hA hK hP hD ([51, 52, 1, 2, 3, 4, 5, 6, 7, 8, 9, 10, 11, 12, 13, 14, 15, 16, 17, 18, 19, 20, 21, 22, 23, 24, 25] ++ tp 61) (xTailC [51, 52, 1, 2, 3, 4, 5, 6, 7, 8, 9, 10, 11, 12, 13, 14, 15, 16, 17, 18, 19, 20, 21, 22, 23, 24, 25] rfl rfl) (by decide +kernel) (q0 := 0) rfl rfl rfl rfl rfl hl.1 rfl (lv_room (Nat.le_of_ble_eq_true rfl)) dX12_undo_29 ⟨Nat.zero_le _, Nat.zero_le _⟩) hP hD hS hA ([51, 52, 1, 2, 3, 4, 5, 6, 7, 8, 9, 10, 11, 12, 13, 14, 15, 16, 17, 18, 19, 20, 21, 22, 23, 24, 25] ++ tp 61) (xTailC [51, 52, 1, 2, 3, 4, 5, 6, 7, 8, 9, 10, 11, 12, 13, 14, 15, 16, 17, 18, 19, 20, 21, 22, 23, 24, 25] rfl rfl) (xTailF rfl) (xT2 (F := 61) [51, 52, 1, 2, 3, 4, 5, 6, 7, 8, 9, 10, 11, 12, 13, 14, 15, 16, 17, 18, 19, 20, 21, 22, 23, 24, 25] (xselH [none, some 2, some 3, some 4, some 5, some 6, some 7, some 8, some 9, some 10, some 11, some 12, some 13, some 14, some 15, some 16, some 17, some 18, some 19, some 20, some 21, some 22, some 23, some 24, some 25, some 26, none, none, none, none, none, none, none, none, none, none, none, none, none, none, none, none, none, none, none, none, none, none, none, none, none, some 0, some 1, none, none, none, none, none, none, none, none] rfl (by decide +kernel)) rfl rfl rfl) (fun H locs hP hD hS => ?_)
    refine lv_aload_n hx hb dX12_undo_32 rfl (lv_at hl 0 rfl) ?_
    refine va_get (D := D) (ci := 11) (v := .ref (h0 51)) (C := RX12) (T := TX12) (N := 10) hx hb hts iX12 hown hK hP 0 rfl rfl 2 (by decide) (hts _ qfl_X12_22) (fun _ h9 => h9) rfl dX12_undo_33 ?_
    refine va_getN (D := D) (ci := 5) (v := .int q2.1.2) (C := RX5) (T := TX5) (N := 3) hx hb hts iX5 hown hK hP 51 rfl rfl 2 (by decide) (hN.use qfn_X12_400) (fun _ h9 => h9) rfl dX12_undo_36 ?_
    have h := Option.some.inj h
    subst h
    refine W.widen (k := 1) (n := 6) (Nat.le_of_ble_eq_true rfl) (Nat.le_of_ble_eq_true rfl) ?_
    exact vIret hx hb hr9 hlocks hP hK hD hS dX12_undo_39
  · have h := x_t h c1
    have h := Option.some.inj h
    subst h
    exact vThrowW (x := 4) (text := "no call can be undone") (is := 401) hx hb hl9 hown hts hN hV hA (by decide) xThr4 xThg4 (by decide +kernel) hK hP hD hS (hl.1.trans hml.symm) dX12_undo_10 dX12_undo_13 dX12_undo_14 dX12_undo_17 dX12_undo_20 htab (by rw [← erm]; rfl) hlocks (by decide) (Nat.le_of_ble_eq_true rfl) (Nat.le_of_ble_eq_true rfl)
def fX12_restore (N : Nat)  (s0 : ThlS) : Option (Nat × Int32 × ThlS) :=
  if s0.2.2.2.2.2.2.2.1 = 0 then
    some (4, 0, s0)
  else
    xcall (fX3_copyFrom N s0.1 s0.2.1) fun q2 =>
    xcall (fX5_clear N s0.2.2.1) fun q3 =>
    some (0, q2.1.1.2.2.2.2, (Thls2 (Thls1 (Thls0 s0 q2.1) q2.2) q3))
set_option maxRecDepth 100000 in
set_option maxHeartbeats 4000000 in
theorem kX12_restore (l : Launch) (hl9 : l.stackTraces = false) (D : va_G) (cA : Nat → ClassId) (ad : Nat → Nat) (hr : Nat → Nat → Nat) (h0 : Nat → Nat) (sz N : Nat)  (s0 : ThlS) (q : Nat × Int32 × ThlS) (h : fX12_restore N s0 = some q) : vM l yX12_restore cX12_restore 1 (some .int) ({ frames := 6, cells := 1, slots := 6, locals := 90 }) D cA ad (ThlW cA ad hr h0 s0) sz [.ref (h0 0)] q.1 (some (.int q.2.1)) (ThlW cA ad hr h0 q.2.2) 1 6 := by
  generalize erm : ({ frames := 6, cells := 1, slots := 6, locals := 90 } : Room) = rm
  refine vMet (by decide) (Nat.le_of_ble_eq_true rfl) ?_
  intro p e s m below meth c hx hb hr9 hlocks hml hts hown hin hK hP A eA hD hS hA hsz hN hE hV htab ls hl
  have hl : lv_has ls 1 [(0, .ref (h0 0))] := hl
  clear eA
  rw [fX12_restore] at h
  refine lv_aload_n hx hb dX12_restore_0 rfl (lv_at hl 0 rfl) ?_
  refine va_get (D := D) (ci := 11) (v := .int s0.2.2.2.2.2.2.2.1) (C := RX12) (T := TX12) (N := 10) hx hb hts iX12 hown hK hP 0 rfl rfl 7 (by decide) (hts _ qfl_X12_409) (fun _ h9 => h9) rfl dX12_restore_1 ?_
  refine lv_if_ne (tgt := 18) hx hb dX12_restore_4 (by decide) (fun c1 => ?_) (fun c1 => ?_)
  · have h := x_f h c1
    refine lv_aload_n hx hb dX12_restore_18 rfl (lv_at hl 0 rfl) ?_
    refine va_get (D := D) (ci := 11) (v := .ref (h0 1)) (C := RX12) (T := TX12) (N := 10) hx hb hts iX12 hown hK hP 0 rfl rfl 0 (by decide) (hts _ qfl_X12_10) (fun _ h9 => h9) rfl dX12_restore_19 ?_
    refine lv_aload_n hx hb dX12_restore_22 rfl (lv_at hl 0 rfl) ?_
    refine va_get (D := D) (ci := 11) (v := .ref (h0 26)) (C := RX12) (T := TX12) (N := 10) hx hb hts iX12 hown hK hP 0 rfl rfl 1 (by decide) (hts _ qfl_X12_16) (fun _ h9 => h9) rfl dX12_restore_23 ?_
    obtain ⟨q2, c2, h⟩ := x_call h
    refine xCallH (w2 := ThlW cA ad hr h0 ((Thls1 (Thls0 s0 q2.1) q2.2))) (zRunV (n := 1) (As := [.ref (h0 26)]) (rest := []) ⟨hx, hb, hml, hown, hts⟩ (kX3_copyFrom l D cA ad (fun k => h0 (k + 1)) (fun k => h0 (k + 26)) _ N s0.1 s0.2.1 q2 c2) qco_X3_copyFrom qml_X12_406 qin_X3_copyFrom qse_X3_copyFrom qini_X3 (by decide +kernel) (by rw [← erm]; rfl) hN hE hS hA hK hP hD [1, 2, 3, 4, 5, 6, 7, 8, 9, 10, 11, 12, 13, 14, 15, 16, 17, 18, 19, 20, 21, 22, 23, 24, 25, 26, 27, 28, 29, 30, 31, 32, 33, 34, 35, 36, 37, 38, 39, 40, 41, 42, 43, 44, 45, 46, 47, 48, 49, 50] rfl rfl (q0 := 0) rfl rfl rfl rfl rfl hl.1 rfl (lv_room (Nat.le_of_ble_eq_true rfl)) dX12_restore_26 ⟨Nat.zero_le _, Nat.zero_le _⟩) hP hD hS hA [1, 2, 3, 4, 5, 6, 7, 8, 9, 10, 11, 12, 13, 14, 15, 16, 17, 18, 19, 20, 21, 22, 23, 24, 25, 26, 27, 28, 29, 30, 31, 32, 33, 34, 35, 36, 37, 38, 39, 40, 41, 42, 43, 44, 45, 46, 47, 48, 49, 50] rfl rfl (xselH [none, some 0, some 1, some 2, some 3, some 4, some 5, some 6, some 7, some 8, some 9, some 10, some 11, some 12, some 13, some 14, some 15, some 16, some 17, some 18, some 19, some 20, some 21, some 22, some 23, some 24, some 25, some 26, some 27, some 28, some 29, some 30, some 31, some 32, some 33, some 34, some 35, some 36, some 37, some 38, some 39, some 40, some 41, some 42, some 43, some 44, some 45, some 46, some 47, some 48, some 49, none, none, none, none, none, none, none, none, none, none] rfl (by decide +kernel)) (fun H locs hP hD hS => ?_)
    refine lv_aload_n hx hb dX12_restore_29 rfl (lv_at hl 0 rfl) ?_
    refine va_get (D := D) (ci := 11) (v := .ref (h0 51)) (C := RX12) (T := TX12) (N := 10) hx hb hts iX12 hown hK hP 0 rfl rfl 2 (by decide) (hts _ qfl_X12_22) (fun _ h9 => h9) rfl dX12_restore_30 ?_
    obtain ⟨q3, c3, h⟩ := x_call h
    refine xCallH (w2 := ThlW cA ad hr h0 ((Thls2 (Thls1 (Thls0 s0 q2.1) q2.2) q3))) (zRunV (n := 0) (As := []) (rest := []) ⟨hx, hb, hml, hown, hts⟩ (kX5_clear l D cA ad hr (fun k => h0 (k + 51)) _ N s0.2.2.1 q3 c3) qco_X5_clear qml_X12_415 qin_X5_clear qse_X5_clear qini_X5 (by decide +kernel) (by rw [← erm]; rfl) hN hE hS hA hK hP hD [51, 52] rfl rfl (q0 := 0) rfl rfl rfl rfl rfl hl.1 rfl (lv_room (Nat.le_of_ble_eq_true rfl)) dX12_restore_33 ⟨Nat.zero_le _, Nat.zero_le _⟩) hP hD hS hA [51, 52] rfl rfl (xselH [none, none, none, none, none, none, none, none, none, none, none, none, none, none, none, none, none, none, none, none, none, none, none, none, none, none, none, none, none, none, none, none, none, none, none, none, none, none, none, none, none, none, none, none, none, none, none, none, none, none, none, some 0, some 1, none, none, none, none, none, none, none, none] rfl (by decide +kernel)) (fun H locs hP hD hS => ?_)
    refine lv_aload_n hx hb dX12_restore_36 rfl (lv_at hl 0 rfl) ?_
    refine va_get (D := D) (ci := 11) (v := .ref (h0 1)) (C := RX12) (T := TX12) (N := 10) hx hb hts iX12 hown hK hP 0 rfl rfl 0 (by decide) (hts _ qfl_X12_10) (fun _ h9 => h9) rfl dX12_restore_37 ?_
    refine va_getN (D := D) (ci := 4) (v := .ref (h0 2)) (C := RX3) (T := TX3) (N := 7) hx hb hts iX3 hown hK hP 1 rfl rfl 0 (by decide) (hN.use qfn_X12_51) (fun _ h9 => h9) rfl dX12_restore_40 ?_
    refine va_getN (D := D) (ci := 2) (v := .int q2.1.1.2.2.2.2) (C := RX1) (T := TX1) (N := 5) hx hb hts iX1 hown hK hP 2 rfl rfl 4 (by decide) (hN.use qfn_X12_173) (fun _ h9 => h9) rfl dX12_restore_43 ?_
    have h := Option.some.inj h
    subst h
    refine W.widen (k := 1) (n := 6) (Nat.le_of_ble_eq_true rfl) (Nat.le_of_ble_eq_true rfl) ?_
    exact vIret hx hb hr9 hlocks hP hK hD hS dX12_restore_46
  · have h := x_t h c1
    have h := Option.some.inj h
    subst h
    exact vThrowW (x := 4) (text := "no state was saved") (is := 413) hx hb hl9 hown hts hN hV hA (by decide) xThr4 xThg4 (by decide +kernel) hK hP hD hS (hl.1.trans hml.symm) dX12_restore_7 dX12_restore_10 dX12_restore_11 dX12_restore_14 dX12_restore_17 htab (by rw [← erm]; rfl) hlocks (by decide) (Nat.le_of_ble_eq_true rfl) (Nat.le_of_ble_eq_true rfl)
