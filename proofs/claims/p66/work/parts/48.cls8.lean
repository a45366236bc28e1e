/-! method by method: what it computes, and that its bytes compute it -/
def fX12_record (N : Nat)  (s0 : ThlS) (s1 : (Nat → BooS)) : Option (ThlS × (Nat → BooS)) :=
  xcall (fX5_setAside N s0.2.2.1 s0.1 s1) fun q1 =>
  xcall (fX5_keepAside N q1.1) fun q2 =>
  some ((Thls2 (Thls0 s0 q1.2.1) q2), q1.2.2)
set_option maxRecDepth 100000 in
set_option maxHeartbeats 4000000 in
theorem kX12_record (l : Launch) (D : va_G) (cA : Nat → ClassId) (ad : Nat → Nat) (hr : Nat → Nat → Nat) (h0 : Nat → Nat) (sz N : Nat)  (s0 : ThlS) (s1 : (Nat → BooS)) (q : ThlS × (Nat → BooS)) (h : fX12_record N s0 s1 = some q) : zM l yX12_record cX12_record 1 none ({ frames := 4, cells := 0, slots := 0, locals := 103 }) D cA ad (ThlW cA ad hr h0 s0 ++ RowW cA hr s1) sz [.ref (h0 0)] (none) (ThlW cA ad hr h0 q.1 ++ RowW cA hr q.2) := by
  generalize erm : ({ frames := 4, cells := 0, slots := 0, locals := 103 } : Room) = rm
  refine zMet (by decide) (Nat.le_of_ble_eq_true rfl) ?_
  intro p e s m below meth c hx hb hr9 hlocks hml hts hown hin hK hP A eA hD hS hA hsz hN hE ls hl
  have hl : lv_has ls 1 [(0, .ref (h0 0))] := hl
  clear eA
  rw [fX12_record] at h
  refine lv_aload_n hx hb dX12_record_0 rfl (lv_at hl 0 rfl) ?_
  refine va_get (D := D) (ci := 11) (v := .ref (h0 51)) (C := RX12) (T := TX12) (N := 10) hx hb hts iX12 hown hK hP 0 rfl rfl 2 (by decide) (hts _ qfl_X12_22) (fun _ h9 => h9) rfl dX12_record_1 ?_
  refine lv_aload_n hx hb dX12_record_4 rfl (lv_at hl 0 rfl) ?_
  refine va_get (D := D) (ci := 11) (v := .ref (h0 1)) (C := RX12) (T := TX12) (N := 10) hx hb hts iX12 hown hK hP 0 rfl rfl 0 (by decide) (hts _ qfl_X12_10) (fun _ h9 => h9) rfl dX12_record_5 ?_
  obtain ⟨q1, c1, h⟩ := x_call h
  refine xCallH (w2 := ThlW cA ad hr h0 ((Thls2 (Thls0 s0 q1.2.1) q1.1)) ++ RowW cA hr q1.2.2) (zRunV (n := 1) (As := [.ref (h0 1)]) (rest := []) ⟨hx, hb, hml, hown, hts⟩ (kX5_setAside l D cA ad hr (fun k => h0 (k + 51)) (fun k => h0 (k + 1)) _ N s0.2.2.1 s0.1 s1 q1 c1) qco_X5_setAside qml_X12_355 qin_X5_setAside qse_X5_setAside qini_X5 (by decide +kernel) (by rw [← erm]; rfl) hN hE hS hA hK hP hD ([51, 52, 1, 2, 3, 4, 5, 6, 7, 8, 9, 10, 11, 12, 13, 14, 15, 16, 17, 18, 19, 20, 21, 22, 23, 24, 25] ++ tp 61) (xTailC [51, 52, 1, 2, 3, 4, 5, 6, 7, 8, 9, 10, 11, 12, 13, 14, 15, 16, 17, 18, 19, 20, 21, 22, 23, 24, 25] rfl rfl) (by decide +kernel) (q0 := 0) rfl rfl rfl rfl rfl hl.1 rfl (lv_room (Nat.le_of_ble_eq_true rfl)) dX12_record_8 ⟨Nat.zero_le _, Nat.zero_le _⟩) hP hD hS hA ([51, 52, 1, 2, 3, 4, 5, 6, 7, 8, 9, 10, 11, 12, 13, 14, 15, 16, 17, 18, 19, 20, 21, 22, 23, 24, 25] ++ tp 61) (xTailC [51, 52, 1, 2, 3, 4, 5, 6, 7, 8, 9, 10, 11, 12, 13, 14, 15, 16, 17, 18, 19, 20, 21, 22, 23, 24, 25] rfl rfl) (xTailF rfl) (xT2 (F := 61) [51, 52, 1, 2, 3, 4, 5, 6, 7, 8, 9, 10, 11, 12, 13, 14, 15, 16, 17, 18, 19, 20, 21, 22, 23, 24, 25] (xselH [none, some 2, some 3, some 4, some 5, some 6, some 7, some 8, some 9, some 10, some 11, some 12, some 13, some 14, some 15, some 16, some 17, some 18, some 19, some 20, some 21, some 22, some 23, some 24, some 25, some 26, none, none, none, none, none, none, none, none, none, none, none, none, none, none, none, none, none, none, none, none, none, none, none, none, none, some 0, some 1, none, none, none, none, none, none, none, none] rfl (by decide +kernel)) rfl rfl rfl) (fun H locs hP hD hS => ?_)
  refine lv_aload_n hx hb dX12_record_11 rfl (lv_at hl 0 rfl) ?_
  refine va_get (D := D) (ci := 11) (v := .ref (h0 51)) (C := RX12) (T := TX12) (N := 10) hx hb hts iX12 hown hK hP 0 rfl rfl 2 (by decide) (hts _ qfl_X12_22) (fun _ h9 => h9) rfl dX12_record_12 ?_
  obtain ⟨q2, c2, h⟩ := x_call h
  refine xCallH (w2 := ThlW cA ad hr h0 ((Thls2 (Thls0 s0 q1.2.1) q2)) ++ RowW cA hr q1.2.2) (zRunV (n := 0) (As := []) (rest := []) ⟨hx, hb, hml, hown, hts⟩ (kX5_keepAside l D cA ad hr (fun k => h0 (k + 51)) _ N q1.1 q2 c2) qco_X5_keepAside qml_X12_377 qin_X5_keepAside qse_X5_keepAside qini_X5 (by decide +kernel) (by rw [← erm]; rfl) hN hE hS hA hK hP hD [51, 52] rfl rfl (q0 := 0) rfl rfl rfl rfl rfl hl.1 rfl (lv_room (Nat.le_of_ble_eq_true rfl)) dX12_record_15 ⟨Nat.zero_le _, Nat.zero_le _⟩) hP hD hS hA [51, 52] rfl rfl (xR2 (F := 61) [51, 52] (xselH [none, none, none, none, none, none, none, none, none, none, none, none, none, none, none, none, none, none, none, none, none, none, none, none, none, none, none, none, none, none, none, none, none, none, none, none, none, none, none, none, none, none, none, none, none, none, none, none, none, none, none, some 0, some 1, none, none, none, none, none, none, none, none] rfl (by decide +kernel)) rfl rfl (by decide +kernel)) (fun H locs hP hD hS => ?_)
  have h := Option.some.inj h
  subst h
  exact xVret hx hb hr9 hlocks hP hK hD hS dX12_record_18
def fX12_faultOfHours (N : Nat) (a0 : Int32)  : Option (Nat) :=
  xcall (fX12_isWithin N a0 1 24) fun q1 =>
  xjoin (fun (t0_2 : Nat) =>
      some t0_2
    ) fun J19 =>
  if q1 = 0 then
    J19 3
  else
    J19 0
set_option maxRecDepth 100000 in
set_option maxHeartbeats 4000000 in
theorem kX12_faultOfHours (l : Launch) (D : va_G) (cA : Nat → ClassId) (ad : Nat → Nat)  (sz N : Nat) (a0 : Int32)  (q : Nat) (h : fX12_faultOfHours N a0 = some q) : zM l yX12_faultOfHours cX12_faultOfHours 1 (some (.object "TheatreLedger$Fault")) ({ frames := 1, cells := 0, slots := 0, locals := 22 }) D cA ad (([] : va_W)) sz [.int a0] (some (.ref (ad q))) (([] : va_W)) := by
  generalize erm : ({ frames := 1, cells := 0, slots := 0, locals := 22 } : Room) = rm
  refine zMet (by decide) (Nat.le_of_ble_eq_true rfl) ?_
  intro p e s m below meth c hx hb hr hlocks hml hts hown hin hK hP A eA hD hS hA hsz hN hE ls hl
  have hl : lv_has ls 1 [(0, .int a0)] := hl
  clear eA
  rw [fX12_faultOfHours] at h
  refine lv_iload_n hx hb dX12_faultOfHours_0 rfl (lv_at hl 0 rfl) ?_
  refine lv_iconst (v := 1) hx hb dX12_faultOfHours_1 (by decide) ?_
  refine lv_bipush (v := 24) hx hb dX12_faultOfHours_2 (by decide) ?_
  obtain ⟨q1, c1, h⟩ := x_call h
  refine xCallH (w2 := ([] : va_W)) (xRunS (n := 3) (As := [.int a0, .int 1, .int 24]) (rest := []) ⟨hx, hb, hml, hown, hts⟩ (kX12_isWithin l D cA  _ N a0 1 24 q1 c1) qco_X12_isWithin qml_X12_217 qst_X12_isWithin qini_X12 (by decide +kernel) (by rw [← erm]; rfl) hK hP hD [] rfl rfl rfl rfl hl.1 rfl (lv_room (Nat.le_of_ble_eq_true rfl)) dX12_faultOfHours_4 ⟨Nat.zero_le _, Nat.zero_le _⟩) hP hD hS hA [] rfl rfl (xselH [] rfl (by decide +kernel)) (fun H locs hP hD hS => ?_)
  obtain ⟨J19, eJ19, h⟩ := x_join h
  have hJ_J19 : ∀ (t0_2 : Nat) (H : Heap) (locs : List Loc), va_P D vwCl (([] : va_W)) H → va_D A (([] : va_W)) → va_S A s.heap H locs → ∀ ls : Array Slot, lv_has ls 1 [] → J19 t0_2 = some q → W p l e rm s m ([.int a0] : List Value).toArray below meth c H locs 0 0 (MQ below (xQ D cA A (([] : va_W)) (some (.ref (ad q)))) ([.int a0] : List Value).toArray s 0 0 A) (F0 m 19 ls [.ref (ad t0_2)]) := by
    clear h hP hD hS hl
    intro t0_2 H locs hP hD hS ls hl h
    rw [eJ19] at h
    have h := Option.some.inj h
    subst h
    exact zAret (a := ad t0_2) hx hb hr hlocks hP hK hD hS dX12_faultOfHours_19
  refine lv_if_eq (tgt := 16) hx hb dX12_faultOfHours_7 (by decide) (fun c3 => ?_) (fun c3 => ?_)
  · have h := x_t h c3
    refine va_gets hx hb (xE.f3 hE) hS hown (hts _ qfl_X12_428) (fun _ h9 => h9) dX12_faultOfHours_16 ?_
    exact hJ_J19 3 _ _ hP hD hS _ (lv_sub hl [] rfl) h
  · have h := x_f h c3
    refine va_gets hx hb (xE.f0 hE) hS hown (hts _ qfl_X12_363) (fun _ h9 => h9) dX12_faultOfHours_10 ?_
    refine lv_goto (tgt := 19) hx hb dX12_faultOfHours_13 (by decide) ?_
    exact hJ_J19 0 _ _ hP hD hS _ (lv_sub hl [] rfl) h
def fX12_curtain (N : Nat)  (s0 : ThlS) (s1 : (Nat → BooS)) : Option (Int32 × ThlS × (Nat → BooS)) :=
  xcall (fX12_record N s0 s1) fun q1 =>
  xcall (fX3_dropCurtain N q1.1.1) fun q2 =>
  some (Int64.toInt32 q2.1, (Thls0 q1.1 q2.2), q1.2)
set_option maxRecDepth 100000 in
set_option maxHeartbeats 4000000 in
theorem kX12_curtain (l : Launch) (D : va_G) (cA : Nat → ClassId) (ad : Nat → Nat) (hr : Nat → Nat → Nat) (h0 : Nat → Nat) (sz N : Nat)  (s0 : ThlS) (s1 : (Nat → BooS)) (q : Int32 × ThlS × (Nat → BooS)) (h : fX12_curtain N s0 s1 = some q) : zM l yX12_curtain cX12_curtain 1 (some .int) ({ frames := 5, cells := 0, slots := 0, locals := 123 }) D cA ad (ThlW cA ad hr h0 s0 ++ RowW cA hr s1) sz [.ref (h0 0)] (some (.int q.1)) (ThlW cA ad hr h0 q.2.1 ++ RowW cA hr q.2.2) := by
  generalize erm : ({ frames := 5, cells := 0, slots := 0, locals := 123 } : Room) = rm
  refine zMet (by decide) (Nat.le_of_ble_eq_true rfl) ?_
  intro p e s m below meth c hx hb hr9 hlocks hml hts hown hin hK hP A eA hD hS hA hsz hN hE ls hl
  have hl : lv_has ls 1 [(0, .ref (h0 0))] := hl
  clear eA
  rw [fX12_curtain] at h
  refine lv_aload_n hx hb dX12_curtain_0 rfl (lv_at hl 0 rfl) ?_
  obtain ⟨q1, c1, h⟩ := x_call h
  refine xCallH (w2 := ThlW cA ad hr h0 q1.1 ++ RowW cA hr q1.2) (zRunV (n := 0) (As := []) (rest := []) ⟨hx, hb, hml, hown, hts⟩ (kX12_record l D cA ad hr h0 _ N s0 s1 q1 c1) qco_X12_record qml_X12_65 qin_X12_record qse_X12_record qini_X12 (by decide +kernel) (by rw [← erm]; rfl) hN hE hS hA hK hP hD ([0, 1, 2, 3, 4, 5, 6, 7, 8, 9, 10, 11, 12, 13, 14, 15, 16, 17, 18, 19, 20, 21, 22, 23, 24, 25, 26, 27, 28, 29, 30, 31, 32, 33, 34, 35, 36, 37, 38, 39, 40, 41, 42, 43, 44, 45, 46, 47, 48, 49, 50, 51, 52, 53, 54, 55, 56, 57, 58, 59, 60] ++ tp 61) (xTailC [0, 1, 2, 3, 4, 5, 6, 7, 8, 9, 10, 11, 12, 13, 14, 15, 16, 17, 18, 19, 20, 21, 22, 23, 24, 25, 26, 27, 28, 29, 30, 31, 32, 33, 34, 35, 36, 37, 38, 39, 40, 41, 42, 43, 44, 45, 46, 47, 48, 49, 50, 51, 52, 53, 54, 55, 56, 57, 58, 59, 60] rfl rfl) (by decide +kernel) (q0 := 0) rfl rfl rfl rfl rfl hl.1 rfl (lv_room (Nat.le_of_ble_eq_true rfl)) dX12_curtain_1 ⟨Nat.zero_le _, Nat.zero_le _⟩) hP hD hS hA ([0, 1, 2, 3, 4, 5, 6, 7, 8, 9, 10, 11, 12, 13, 14, 15, 16, 17, 18, 19, 20, 21, 22, 23, 24, 25, 26, 27, 28, 29, 30, 31, 32, 33, 34, 35, 36, 37, 38, 39, 40, 41, 42, 43, 44, 45, 46, 47, 48, 49, 50, 51, 52, 53, 54, 55, 56, 57, 58, 59, 60] ++ tp 61) (xTailC [0, 1, 2, 3, 4, 5, 6, 7, 8, 9, 10, 11, 12, 13, 14, 15, 16, 17, 18, 19, 20, 21, 22, 23, 24, 25, 26, 27, 28, 29, 30, 31, 32, 33, 34, 35, 36, 37, 38, 39, 40, 41, 42, 43, 44, 45, 46, 47, 48, 49, 50, 51, 52, 53, 54, 55, 56, 57, 58, 59, 60] rfl rfl) (xTailF rfl) (xT2 (F := 61) [0, 1, 2, 3, 4, 5, 6, 7, 8, 9, 10, 11, 12, 13, 14, 15, 16, 17, 18, 19, 20, 21, 22, 23, 24, 25, 26, 27, 28, 29, 30, 31, 32, 33, 34, 35, 36, 37, 38, 39, 40, 41, 42, 43, 44, 45, 46, 47, 48, 49, 50, 51, 52, 53, 54, 55, 56, 57, 58, 59, 60] (xselH [some 0, some 1, some 2, some 3, some 4, some 5, some 6, some 7, some 8, some 9, some 10, some 11, some 12, some 13, some 14, some 15, some 16, some 17, some 18, some 19, some 20, some 21, some 22, some 23, some 24, some 25, some 26, some 27, some 28, some 29, some 30, some 31, some 32, some 33, some 34, some 35, some 36, some 37, some 38, some 39, some 40, some 41, some 42, some 43, some 44, some 45, some 46, some 47, some 48, some 49, some 50, some 51, some 52, some 53, some 54, some 55, some 56, some 57, some 58, some 59, some 60] rfl (by decide +kernel)) rfl rfl rfl) (fun H locs hP hD hS => ?_)
  refine lv_aload_n hx hb dX12_curtain_4 rfl (lv_at hl 0 rfl) ?_
  refine va_get (D := D) (ci := 11) (v := .ref (h0 1)) (C := RX12) (T := TX12) (N := 10) hx hb hts iX12 hown hK hP 0 rfl rfl 0 (by decide) (hts _ qfl_X12_10) (fun _ h9 => h9) rfl dX12_curtain_5 ?_
  obtain ⟨q2, c2, h⟩ := x_call h
  refine xCallH (w2 := ThlW cA ad hr h0 ((Thls0 q1.1 q2.2)) ++ RowW cA hr q1.2) (zRunV (n := 0) (As := []) (rest := []) ⟨hx, hb, hml, hown, hts⟩ (kX3_dropCurtain l D cA ad (fun k => h0 (k + 1)) _ N q1.1.1 q2 c2) qco_X3_dropCurtain qml_X12_166 qin_X3_dropCurtain qse_X3_dropCurtain qini_X3 (by decide +kernel) (by rw [← erm]; rfl) hN hE hS hA hK hP hD [1, 2, 3, 4, 5, 6, 7, 8, 9, 10, 11, 12, 13, 14, 15, 16, 17, 18, 19, 20, 21, 22, 23, 24, 25] rfl rfl (q0 := 0) rfl rfl rfl rfl rfl hl.1 rfl (lv_room (Nat.le_of_ble_eq_true rfl)) dX12_curtain_8 ⟨Nat.zero_le _, Nat.zero_le _⟩) hP hD hS hA [1, 2, 3, 4, 5, 6, 7, 8, 9, 10, 11, 12, 13, 14, 15, 16, 17, 18, 19, 20, 21, 22, 23, 24, 25] rfl rfl (xR2 (F := 61) [1, 2, 3, 4, 5, 6, 7, 8, 9, 10, 11, 12, 13, 14, 15, 16, 17, 18, 19, 20, 21, 22, 23, 24, 25] (xselH [none, some 0, some 1, some 2, some 3, some 4, some 5, some 6, some 7, some 8, some 9, some 10, some 11, some 12, some 13, some 14, some 15, some 16, some 17, some 18, some 19, some 20, some 21, some 22, some 23, some 24, none, none, none, none, none, none, none, none, none, none, none, none, none, none, none, none, none, none, none, none, none, none, none, none, none, none, none, none, none, none, none, none, none, none, none] rfl (by decide +kernel)) rfl rfl (by decide +kernel)) (fun H locs hP hD hS => ?_)
  refine lv_l2i hx hb dX12_curtain_11 rfl ?_
  have h := Option.some.inj h
  subst h
  exact xIret hx hb hr9 hlocks hP hK hD hS dX12_curtain_12
def fX12_hour (N : Nat)  (s0 : ThlS) : Option (Int32) :=
  some s0.1.2.2.2.2.2.1
set_option maxRecDepth 100000 in
set_option maxHeartbeats 4000000 in
theorem kX12_hour (l : Launch) (D : va_G) (cA : Nat → ClassId) (ad : Nat → Nat) (hr : Nat → Nat → Nat) (h0 : Nat → Nat) (sz N : Nat)  (s0 : ThlS) (q : Int32) (h : fX12_hour N s0 = some q) : zM l yX12_hour cX12_hour 1 (some .int) ({ frames := 0, cells := 0, slots := 0, locals := 0 }) D cA ad (ThlW cA ad hr h0 s0) sz [.ref (h0 0)] (some (.int q)) (ThlW cA ad hr h0 s0) := by
  generalize erm : ({ frames := 0, cells := 0, slots := 0, locals := 0 } : Room) = rm
  refine zMet (by decide) (Nat.le_of_ble_eq_true rfl) ?_
  intro p e s m below meth c hx hb hr9 hlocks hml hts hown hin hK hP A eA hD hS hA hsz hN hE ls hl
  have hl : lv_has ls 1 [(0, .ref (h0 0))] := hl
  clear eA
  rw [fX12_hour] at h
  refine lv_aload_n hx hb dX12_hour_0 rfl (lv_at hl 0 rfl) ?_
  refine va_get (D := D) (ci := 11) (v := .ref (h0 1)) (C := RX12) (T := TX12) (N := 10) hx hb hts iX12 hown hK hP 0 rfl rfl 0 (by decide) (hts _ qfl_X12_10) (fun _ h9 => h9) rfl dX12_hour_1 ?_
  refine va_getN (D := D) (ci := 4) (v := .int s0.1.2.2.2.2.2.1) (C := RX3) (T := TX3) (N := 7) hx hb hts iX3 hown hK hP 1 rfl rfl 5 (by decide) (hN.use qfn_X12_170) (fun _ h9 => h9) rfl dX12_hour_4 ?_
  have h := Option.some.inj h
  subst h
  exact xIret hx hb hr9 hlocks hP hK hD hS dX12_hour_7
def fX12_accountCount (N : Nat)  (s0 : ThlS) : Option (Int32) :=
  some s0.1.1.2.2.2.2
set_option maxRecDepth 100000 in
set_option maxHeartbeats 4000000 in
theorem kX12_accountCount (l : Launch) (D : va_G) (cA : Nat → ClassId) (ad : Nat → Nat) (hr : Nat → Nat → Nat) (h0 : Nat → Nat) (sz N : Nat)  (s0 : ThlS) (q : Int32) (h : fX12_accountCount N s0 = some q) : zM l yX12_accountCount cX12_accountCount 1 (some .int) ({ frames := 0, cells := 0, slots := 0, locals := 0 }) D cA ad (ThlW cA ad hr h0 s0) sz [.ref (h0 0)] (some (.int q)) (ThlW cA ad hr h0 s0) := by
  generalize erm : ({ frames := 0, cells := 0, slots := 0, locals := 0 } : Room) = rm
  refine zMet (by decide) (Nat.le_of_ble_eq_true rfl) ?_
  intro p e s m below meth c hx hb hr9 hlocks hml hts hown hin hK hP A eA hD hS hA hsz hN hE ls hl
  have hl : lv_has ls 1 [(0, .ref (h0 0))] := hl
  clear eA
  rw [fX12_accountCount] at h
  refine lv_aload_n hx hb dX12_accountCount_0 rfl (lv_at hl 0 rfl) ?_
  refine va_get (D := D) (ci := 11) (v := .ref (h0 1)) (C := RX12) (T := TX12) (N := 10) hx hb hts iX12 hown hK hP 0 rfl rfl 0 (by decide) (hts _ qfl_X12_10) (fun _ h9 => h9) rfl dX12_accountCount_1 ?_
  refine va_getN (D := D) (ci := 4) (v := .ref (h0 2)) (C := RX3) (T := TX3) (N := 7) hx hb hts iX3 hown hK hP 1 rfl rfl 0 (by decide) (hN.use qfn_X12_51) (fun _ h9 => h9) rfl dX12_accountCount_4 ?_
  refine va_getN (D := D) (ci := 2) (v := .int s0.1.1.2.2.2.2) (C := RX1) (T := TX1) (N := 5) hx hb hts iX1 hown hK hP 2 rfl rfl 4 (by decide) (hN.use qfn_X12_173) (fun _ h9 => h9) rfl dX12_accountCount_7 ?_
  have h := Option.some.inj h
  subst h
  exact xIret hx hb hr9 hlocks hP hK hD hS dX12_accountCount_10
def fX12_sumOfDebits (N : Nat)  (s0 : ThlS) : Option (Int64) :=
  xcall (fX1_allDebits N s0.1.1) fun q1 =>
  some q1
set_option maxRecDepth 100000 in
set_option maxHeartbeats 4000000 in
theorem kX12_sumOfDebits (l : Launch) (D : va_G) (cA : Nat → ClassId) (ad : Nat → Nat) (hr : Nat → Nat → Nat) (h0 : Nat → Nat) (sz N : Nat)  (s0 : ThlS) (q : Int64) (h : fX12_sumOfDebits N s0 = some q) : zM l yX12_sumOfDebits cX12_sumOfDebits 1 (some .long) ({ frames := 1, cells := 0, slots := 0, locals := 23 }) D cA ad (ThlW cA ad hr h0 s0) sz [.ref (h0 0)] (some (.long q)) (ThlW cA ad hr h0 s0) := by
  generalize erm : ({ frames := 1, cells := 0, slots := 0, locals := 23 } : Room) = rm
  refine zMet (by decide) (Nat.le_of_ble_eq_true rfl) ?_
  intro p e s m below meth c hx hb hr9 hlocks hml hts hown hin hK hP A eA hD hS hA hsz hN hE ls hl
  have hl : lv_has ls 1 [(0, .ref (h0 0))] := hl
  clear eA
  rw [fX12_sumOfDebits] at h
  refine lv_aload_n hx hb dX12_sumOfDebits_0 rfl (lv_at hl 0 rfl) ?_
  refine va_get (D := D) (ci := 11) (v := .ref (h0 1)) (C := RX12) (T := TX12) (N := 10) hx hb hts iX12 hown hK hP 0 rfl rfl 0 (by decide) (hts _ qfl_X12_10) (fun _ h9 => h9) rfl dX12_sumOfDebits_1 ?_
  refine va_getN (D := D) (ci := 4) (v := .ref (h0 2)) (C := RX3) (T := TX3) (N := 7) hx hb hts iX3 hown hK hP 1 rfl rfl 0 (by decide) (hN.use qfn_X12_51) (fun _ h9 => h9) rfl dX12_sumOfDebits_4 ?_
  obtain ⟨q1, c1, h⟩ := x_call h
  refine xCallH (w2 := ThlW cA ad hr h0 s0) (zRunV (n := 0) (As := []) (rest := []) ⟨hx, hb, hml, hown, hts⟩ (kX1_allDebits l D cA ad (fun k => h0 (k + 2)) _ N s0.1.1 q1 c1) qco_X1_allDebits qml_X12_208 qin_X1_allDebits qse_X1_allDebits qini_X1 (by decide +kernel) (by rw [← erm]; rfl) hN hE hS hA hK hP hD [2, 3, 4, 5, 6] rfl rfl (q0 := 0) rfl rfl rfl rfl rfl hl.1 rfl (lv_room (Nat.le_of_ble_eq_true rfl)) dX12_sumOfDebits_7 ⟨Nat.zero_le _, Nat.zero_le _⟩) hP hD hS hA [2, 3, 4, 5, 6] rfl rfl (xselH [none, none, some 0, some 1, some 2, some 3, some 4, none, none, none, none, none, none, none, none, none, none, none, none, none, none, none, none, none, none, none, none, none, none, none, none, none, none, none, none, none, none, none, none, none, none, none, none, none, none, none, none, none, none, none, none, none, none, none, none, none, none, none, none, none, none] rfl (by decide +kernel)) (fun H locs hP hD hS => ?_)
  have h := Option.some.inj h
  subst h
  exact xLret hx hb hr9 hlocks hP hK hD hS dX12_sumOfDebits_10
def fX12_sumOfCredits (N : Nat)  (s0 : ThlS) : Option (Int64) :=
  xcall (fX1_allCredits N s0.1.1) fun q1 =>
  some q1
set_option maxRecDepth 100000 in
set_option maxHeartbeats 4000000 in
theorem kX12_sumOfCredits (l : Launch) (D : va_G) (cA : Nat → ClassId) (ad : Nat → Nat) (hr : Nat → Nat → Nat) (h0 : Nat → Nat) (sz N : Nat)  (s0 : ThlS) (q : Int64) (h : fX12_sumOfCredits N s0 = some q) : zM l yX12_sumOfCredits cX12_sumOfCredits 1 (some .long) ({ frames := 1, cells := 0, slots := 0, locals := 23 }) D cA ad (ThlW cA ad hr h0 s0) sz [.ref (h0 0)] (some (.long q)) (ThlW cA ad hr h0 s0) := by
  generalize erm : ({ frames := 1, cells := 0, slots := 0, locals := 23 } : Room) = rm
  refine zMet (by decide) (Nat.le_of_ble_eq_true rfl) ?_
  intro p e s m below meth c hx hb hr9 hlocks hml hts hown hin hK hP A eA hD hS hA hsz hN hE ls hl
  have hl : lv_has ls 1 [(0, .ref (h0 0))] := hl
  clear eA
  rw [fX12_sumOfCredits] at h
  refine lv_aload_n hx hb dX12_sumOfCredits_0 rfl (lv_at hl 0 rfl) ?_
  refine va_get (D := D) (ci := 11) (v := .ref (h0 1)) (C := RX12) (T := TX12) (N := 10) hx hb hts iX12 hown hK hP 0 rfl rfl 0 (by decide) (hts _ qfl_X12_10) (fun _ h9 => h9) rfl dX12_sumOfCredits_1 ?_
  refine va_getN (D := D) (ci := 4) (v := .ref (h0 2)) (C := RX3) (T := TX3) (N := 7) hx hb hts iX3 hown hK hP 1 rfl rfl 0 (by decide) (hN.use qfn_X12_51) (fun _ h9 => h9) rfl dX12_sumOfCredits_4 ?_
  obtain ⟨q1, c1, h⟩ := x_call h
  refine xCallH (w2 := ThlW cA ad hr h0 s0) (zRunV (n := 0) (As := []) (rest := []) ⟨hx, hb, hml, hown, hts⟩ (kX1_allCredits l D cA ad (fun k => h0 (k + 2)) _ N s0.1.1 q1 c1) qco_X1_allCredits qml_X12_211 qin_X1_allCredits qse_X1_allCredits qini_X1 (by decide +kernel) (by rw [← erm]; rfl) hN hE hS hA hK hP hD [2, 3, 4, 5, 6] rfl rfl (q0 := 0) rfl rfl rfl rfl rfl hl.1 rfl (lv_room (Nat.le_of_ble_eq_true rfl)) dX12_sumOfCredits_7 ⟨Nat.zero_le _, Nat.zero_le _⟩) hP hD hS hA [2, 3, 4, 5, 6] rfl rfl (xselH [none, none, some 0, some 1, some 2, some 3, some 4, none, none, none, none, none, none, none, none, none, none, none, none, none, none, none, none, none, none, none, none, none, none, none, none, none, none, none, none, none, none, none, none, none, none, none, none, none, none, none, none, none, none, none, none, none, none, none, none, none, none, none, none, none, none] rfl (by decide +kernel)) (fun H locs hP hD hS => ?_)
  have h := Option.some.inj h
  subst h
  exact xLret hx hb hr9 hlocks hP hK hD hS dX12_sumOfCredits_10
def fX12_profit (N : Nat)  (s0 : ThlS) : Option (Int64) :=
  xcall (fX1_gain N s0.1.1) fun q1 =>
  some q1
set_option maxRecDepth 100000 in
set_option maxHeartbeats 4000000 in
theorem kX12_profit (l : Launch) (D : va_G) (cA : Nat → ClassId) (ad : Nat → Nat) (hr : Nat → Nat → Nat) (h0 : Nat → Nat) (sz N : Nat)  (s0 : ThlS) (q : Int64) (h : fX12_profit N s0 = some q) : zM l yX12_profit cX12_profit 1 (some .long) ({ frames := 2, cells := 0, slots := 0, locals := 44 }) D cA ad (ThlW cA ad hr h0 s0) sz [.ref (h0 0)] (some (.long q)) (ThlW cA ad hr h0 s0) := by
  generalize erm : ({ frames := 2, cells := 0, slots := 0, locals := 44 } : Room) = rm
  refine zMet (by decide) (Nat.le_of_ble_eq_true rfl) ?_
  intro p e s m below meth c hx hb hr9 hlocks hml hts hown hin hK hP A eA hD hS hA hsz hN hE ls hl
  have hl : lv_has ls 1 [(0, .ref (h0 0))] := hl
  clear eA
  rw [fX12_profit] at h
  refine lv_aload_n hx hb dX12_profit_0 rfl (lv_at hl 0 rfl) ?_
  refine va_get (D := D) (ci := 11) (v := .ref (h0 1)) (C := RX12) (T := TX12) (N := 10) hx hb hts iX12 hown hK hP 0 rfl rfl 0 (by decide) (hts _ qfl_X12_10) (fun _ h9 => h9) rfl dX12_profit_1 ?_
  refine va_getN (D := D) (ci := 4) (v := .ref (h0 2)) (C := RX3) (T := TX3) (N := 7) hx hb hts iX3 hown hK hP 1 rfl rfl 0 (by decide) (hN.use qfn_X12_51) (fun _ h9 => h9) rfl dX12_profit_4 ?_
  obtain ⟨q1, c1, h⟩ := x_call h
  refine xCallH (w2 := ThlW cA ad hr h0 s0) (zRunV (n := 0) (As := []) (rest := []) ⟨hx, hb, hml, hown, hts⟩ (kX1_gain l D cA ad (fun k => h0 (k + 2)) _ N s0.1.1 q1 c1) qco_X1_gain qml_X12_214 qin_X1_gain qse_X1_gain qini_X1 (by decide +kernel) (by rw [← erm]; rfl) hN hE hS hA hK hP hD [2, 3, 4, 5, 6] rfl rfl (q0 := 0) rfl rfl rfl rfl rfl hl.1 rfl (lv_room (Nat.le_of_ble_eq_true rfl)) dX12_profit_7 ⟨Nat.zero_le _, Nat.zero_le _⟩) hP hD hS hA [2, 3, 4, 5, 6] rfl rfl (xselH [none, none, some 0, some 1, some 2, some 3, some 4, none, none, none, none, none, none, none, none, none, none, none, none, none, none, none, none, none, none, none, none, none, none, none, none, none, none, none, none, none, none, none, none, none, none, none, none, none, none, none, none, none, none, none, none, none, none, none, none, none, none, none, none, none, none] rfl (by decide +kernel)) (fun H locs hP hD hS => ?_)
  have h := Option.some.inj h
  subst h
  exact xLret hx hb hr9 hlocks hP hK hD hS dX12_profit_10
def fX12_curtainCount (N : Nat)  (s0 : ThlS) : Option (Int32) :=
  some s0.1.2.2.2.2.2.2
set_option maxRecDepth 100000 in
set_option maxHeartbeats 4000000 in
theorem kX12_curtainCount (l : Launch) (D : va_G) (cA : Nat → ClassId) (ad : Nat → Nat) (hr : Nat → Nat → Nat) (h0 : Nat → Nat) (sz N : Nat)  (s0 : ThlS) (q : Int32) (h : fX12_curtainCount N s0 = some q) : zM l yX12_curtainCount cX12_curtainCount 1 (some .int) ({ frames := 0, cells := 0, slots := 0, locals := 0 }) D cA ad (ThlW cA ad hr h0 s0) sz [.ref (h0 0)] (some (.int q)) (ThlW cA ad hr h0 s0) := by
  generalize erm : ({ frames := 0, cells := 0, slots := 0, locals := 0 } : Room) = rm
  refine zMet (by decide) (Nat.le_of_ble_eq_true rfl) ?_
  intro p e s m below meth c hx hb hr9 hlocks hml hts hown hin hK hP A eA hD hS hA hsz hN hE ls hl
  have hl : lv_has ls 1 [(0, .ref (h0 0))] := hl
  clear eA
  rw [fX12_curtainCount] at h
  refine lv_aload_n hx hb dX12_curtainCount_0 rfl (lv_at hl 0 rfl) ?_
  refine va_get (D := D) (ci := 11) (v := .ref (h0 1)) (C := RX12) (T := TX12) (N := 10) hx hb hts iX12 hown hK hP 0 rfl rfl 0 (by decide) (hts _ qfl_X12_10) (fun _ h9 => h9) rfl dX12_curtainCount_1 ?_
  refine va_getN (D := D) (ci := 4) (v := .int s0.1.2.2.2.2.2.2) (C := RX3) (T := TX3) (N := 7) hx hb hts iX3 hown hK hP 1 rfl rfl 6 (by decide) (hN.use qfn_X12_226) (fun _ h9 => h9) rfl dX12_curtainCount_4 ?_
  have h := Option.some.inj h
  subst h
  exact xIret hx hb hr9 hlocks hP hK hD hS dX12_curtainCount_7
def fX12_entryCount (N : Nat)  (s0 : ThlS) : Option (Int32) :=
  xcall (fX6_keptCount N s0.1.2.1) fun q1 =>
  some q1
set_option maxRecDepth 100000 in
set_option maxHeartbeats 4000000 in
theorem kX12_entryCount (l : Launch) (D : va_G) (cA : Nat → ClassId) (ad : Nat → Nat) (hr : Nat → Nat → Nat) (h0 : Nat → Nat) (sz N : Nat)  (s0 : ThlS) (q : Int32) (h : fX12_entryCount N s0 = some q) : zM l yX12_entryCount cX12_entryCount 1 (some .int) ({ frames := 2, cells := 0, slots := 0, locals := 41 }) D cA ad (ThlW cA ad hr h0 s0) sz [.ref (h0 0)] (some (.int q)) (ThlW cA ad hr h0 s0) := by
  generalize erm : ({ frames := 2, cells := 0, slots := 0, locals := 41 } : Room) = rm
  refine zMet (by decide) (Nat.le_of_ble_eq_true rfl) ?_
  intro p e s m below meth c hx hb hr9 hlocks hml hts hown hin hK hP A eA hD hS hA hsz hN hE ls hl
  have hl : lv_has ls 1 [(0, .ref (h0 0))] := hl
  clear eA
  rw [fX12_entryCount] at h
  refine lv_aload_n hx hb dX12_entryCount_0 rfl (lv_at hl 0 rfl) ?_
  refine va_get (D := D) (ci := 11) (v := .ref (h0 1)) (C := RX12) (T := TX12) (N := 10) hx hb hts iX12 hown hK hP 0 rfl rfl 0 (by decide) (hts _ qfl_X12_10) (fun _ h9 => h9) rfl dX12_entryCount_1 ?_
  refine va_getN (D := D) (ci := 4) (v := .ref (h0 7)) (C := RX3) (T := TX3) (N := 7) hx hb hts iX3 hown hK hP 1 rfl rfl 1 (by decide) (hN.use qfn_X12_88) (fun _ h9 => h9) rfl dX12_entryCount_4 ?_
  obtain ⟨q1, c1, h⟩ := x_call h
  refine xCallH (w2 := ThlW cA ad hr h0 s0) (zRunV (n := 0) (As := []) (rest := []) ⟨hx, hb, hml, hown, hts⟩ (kX6_keptCount l D cA ad (fun k => h0 (k + 7)) _ N s0.1.2.1 q1 c1) qco_X6_keptCount qml_X12_234 qin_X6_keptCount qse_X6_keptCount qini_X6 (by decide +kernel) (by rw [← erm]; rfl) hN hE hS hA hK hP hD [7, 8, 9, 10, 11, 12] rfl rfl (q0 := 0) rfl rfl rfl rfl rfl hl.1 rfl (lv_room (Nat.le_of_ble_eq_true rfl)) dX12_entryCount_7 ⟨Nat.zero_le _, Nat.zero_le _⟩) hP hD hS hA [7, 8, 9, 10, 11, 12] rfl rfl (xselH [none, none, none, none, none, none, none, some 0, some 1, some 2, some 3, some 4, some 5, none, none, none, none, none, none, none, none, none, none, none, none, none, none, none, none, none, none, none, none, none, none, none, none, none, none, none, none, none, none, none, none, none, none, none, none, none, none, none, none, none, none, none, none, none, none, none, none] rfl (by decide +kernel)) (fun H locs hP hD hS => ?_)
  have h := Option.some.inj h
  subst h
  exact xIret hx hb hr9 hlocks hP hK hD hS dX12_entryCount_10
def fX12_promptCount (N : Nat)  (s0 : ThlS) : Option (Int32) :=
  some s0.1.2.2.1.2.2.2.2.2.2
set_option maxRecDepth 100000 in
set_option maxHeartbeats 4000000 in
theorem kX12_promptCount (l : Launch) (D : va_G) (cA : Nat → ClassId) (ad : Nat → Nat) (hr : Nat → Nat → Nat) (h0 : Nat → Nat) (sz N : Nat)  (s0 : ThlS) (q : Int32) (h : fX12_promptCount N s0 = some q) : zM l yX12_promptCount cX12_promptCount 1 (some .int) ({ frames := 0, cells := 0, slots := 0, locals := 0 }) D cA ad (ThlW cA ad hr h0 s0) sz [.ref (h0 0)] (some (.int q)) (ThlW cA ad hr h0 s0) := by
  generalize erm : ({ frames := 0, cells := 0, slots := 0, locals := 0 } : Room) = rm
  refine zMet (by decide) (Nat.le_of_ble_eq_true rfl) ?_
  intro p e s m below meth c hx hb hr9 hlocks hml hts hown hin hK hP A eA hD hS hA hsz hN hE ls hl
  have hl : lv_has ls 1 [(0, .ref (h0 0))] := hl
  clear eA
  rw [fX12_promptCount] at h
  refine lv_aload_n hx hb dX12_promptCount_0 rfl (lv_at hl 0 rfl) ?_
  refine va_get (D := D) (ci := 11) (v := .ref (h0 1)) (C := RX12) (T := TX12) (N := 10) hx hb hts iX12 hown hK hP 0 rfl rfl 0 (by decide) (hts _ qfl_X12_10) (fun _ h9 => h9) rfl dX12_promptCount_1 ?_
  refine va_getN (D := D) (ci := 4) (v := .ref (h0 13)) (C := RX3) (T := TX3) (N := 7) hx hb hts iX3 hown hK hP 1 rfl rfl 2 (by decide) (hN.use qfn_X12_101) (fun _ h9 => h9) rfl dX12_promptCount_4 ?_
  refine va_getN (D := D) (ci := 8) (v := .int s0.1.2.2.1.2.2.2.2.2.2) (C := RX8) (T := TX8) (N := 7) hx hb hts iX8 hown hK hP 13 rfl rfl 6 (by decide) (hN.use qfn_X12_262) (fun _ h9 => h9) rfl dX12_promptCount_7 ?_
  have h := Option.some.inj h
  subst h
  exact xIret hx hb hr9 hlocks hP hK hD hS dX12_promptCount_10
def fX12_costumeCount (N : Nat)  (s0 : ThlS) : Option (Int32) :=
  xcall (fX11_costumes N s0.1.2.2.2.1) fun q1 =>
  some q1
set_option maxRecDepth 100000 in
set_option maxHeartbeats 4000000 in
theorem kX12_costumeCount (l : Launch) (D : va_G) (cA : Nat → ClassId) (ad : Nat → Nat) (hr : Nat → Nat → Nat) (h0 : Nat → Nat) (sz N : Nat)  (s0 : ThlS) (q : Int32) (h : fX12_costumeCount N s0 = some q) : zM l yX12_costumeCount cX12_costumeCount 1 (some .int) ({ frames := 1, cells := 0, slots := 0, locals := 22 }) D cA ad (ThlW cA ad hr h0 s0) sz [.ref (h0 0)] (some (.int q)) (ThlW cA ad hr h0 s0) := by
  generalize erm : ({ frames := 1, cells := 0, slots := 0, locals := 22 } : Room) = rm
  refine zMet (by decide) (Nat.le_of_ble_eq_true rfl) ?_
  intro p e s m below meth c hx hb hr9 hlocks hml hts hown hin hK hP A eA hD hS hA hsz hN hE ls hl
  have hl : lv_has ls 1 [(0, .ref (h0 0))] := hl
  clear eA
  rw [fX12_costumeCount] at h
  refine lv_aload_n hx hb dX12_costumeCount_0 rfl (lv_at hl 0 rfl) ?_
  refine va_get (D := D) (ci := 11) (v := .ref (h0 1)) (C := RX12) (T := TX12) (N := 10) hx hb hts iX12 hown hK hP 0 rfl rfl 0 (by decide) (hts _ qfl_X12_10) (fun _ h9 => h9) rfl dX12_costumeCount_1 ?_
  refine va_getN (D := D) (ci := 4) (v := .ref (h0 20)) (C := RX3) (T := TX3) (N := 7) hx hb hts iX3 hown hK hP 1 rfl rfl 3 (by decide) (hN.use qfn_X12_133) (fun _ h9 => h9) rfl dX12_costumeCount_4 ?_
  obtain ⟨q1, c1, h⟩ := x_call h
  refine xCallH (w2 := ThlW cA ad hr h0 s0) (zRunV (n := 0) (As := []) (rest := []) ⟨hx, hb, hml, hown, hts⟩ (kX11_costumes l D cA ad (fun k => h0 (k + 20)) _ N s0.1.2.2.2.1 q1 c1) qco_X11_costumes qml_X12_278 qin_X11_costumes qse_X11_costumes qini_X11 (by decide +kernel) (by rw [← erm]; rfl) hN hE hS hA hK hP hD [20, 21, 22] rfl rfl (q0 := 0) rfl rfl rfl rfl rfl hl.1 rfl (lv_room (Nat.le_of_ble_eq_true rfl)) dX12_costumeCount_7 ⟨Nat.zero_le _, Nat.zero_le _⟩) hP hD hS hA [20, 21, 22] rfl rfl (xselH [none, none, none, none, none, none, none, none, none, none, none, none, none, none, none, none, none, none, none, none, some 0, some 1, some 2, none, none, none, none, none, none, none, none, none, none, none, none, none, none, none, none, none, none, none, none, none, none, none, none, none, none, none, none, none, none, none, none, none, none, none, none, none, none] rfl (by decide +kernel)) (fun H locs hP hD hS => ?_)
  have h := Option.some.inj h
  subst h
  exact xIret hx hb hr9 hlocks hP hK hD hS dX12_costumeCount_10
def fX12_lotCount (N : Nat)  (s0 : ThlS) : Option (Int32) :=
  some s0.1.2.2.2.1.2.2
set_option maxRecDepth 100000 in
set_option maxHeartbeats 4000000 in
theorem kX12_lotCount (l : Launch) (D : va_G) (cA : Nat → ClassId) (ad : Nat → Nat) (hr : Nat → Nat → Nat) (h0 : Nat → Nat) (sz N : Nat)  (s0 : ThlS) (q : Int32) (h : fX12_lotCount N s0 = some q) : zM l yX12_lotCount cX12_lotCount 1 (some .int) ({ frames := 0, cells := 0, slots := 0, locals := 0 }) D cA ad (ThlW cA ad hr h0 s0) sz [.ref (h0 0)] (some (.int q)) (ThlW cA ad hr h0 s0) := by
  generalize erm : ({ frames := 0, cells := 0, slots := 0, locals := 0 } : Room) = rm
  refine zMet (by decide) (Nat.le_of_ble_eq_true rfl) ?_
  intro p e s m below meth c hx hb hr9 hlocks hml hts hown hin hK hP A eA hD hS hA hsz hN hE ls hl
  have hl : lv_has ls 1 [(0, .ref (h0 0))] := hl
  clear eA
  rw [fX12_lotCount] at h
  refine lv_aload_n hx hb dX12_lotCount_0 rfl (lv_at hl 0 rfl) ?_
  refine va_get (D := D) (ci := 11) (v := .ref (h0 1)) (C := RX12) (T := TX12) (N := 10) hx hb hts iX12 hown hK hP 0 rfl rfl 0 (by decide) (hts _ qfl_X12_10) (fun _ h9 => h9) rfl dX12_lotCount_1 ?_
  refine va_getN (D := D) (ci := 4) (v := .ref (h0 20)) (C := RX3) (T := TX3) (N := 7) hx hb hts iX3 hown hK hP 1 rfl rfl 3 (by decide) (hN.use qfn_X12_133) (fun _ h9 => h9) rfl dX12_lotCount_4 ?_
  refine va_getN (D := D) (ci := 10) (v := .int s0.1.2.2.2.1.2.2) (C := RX11) (T := TX11) (N := 3) hx hb hts iX11 hown hK hP 20 rfl rfl 2 (by decide) (hN.use qfn_X12_281) (fun _ h9 => h9) rfl dX12_lotCount_7 ?_
  have h := Option.some.inj h
  subst h
  exact xIret hx hb hr9 hlocks hP hK hD hS dX12_lotCount_10
def fX12_billCount (N : Nat)  (s0 : ThlS) : Option (Int32) :=
  some s0.1.2.2.2.2.1.2.2.1
set_option maxRecDepth 100000 in
set_option maxHeartbeats 4000000 in
theorem kX12_billCount (l : Launch) (D : va_G) (cA : Nat → ClassId) (ad : Nat → Nat) (hr : Nat → Nat → Nat) (h0 : Nat → Nat) (sz N : Nat)  (s0 : ThlS) (q : Int32) (h : fX12_billCount N s0 = some q) : zM l yX12_billCount cX12_billCount 1 (some .int) ({ frames := 0, cells := 0, slots := 0, locals := 0 }) D cA ad (ThlW cA ad hr h0 s0) sz [.ref (h0 0)] (some (.int q)) (ThlW cA ad hr h0 s0) := by
  generalize erm : ({ frames := 0, cells := 0, slots := 0, locals := 0 } : Room) = rm
  refine zMet (by decide) (Nat.le_of_ble_eq_true rfl) ?_
  intro p e s m below meth c hx hb hr9 hlocks hml hts hown hin hK hP A eA hD hS hA hsz hN hE ls hl
  have hl : lv_has ls 1 [(0, .ref (h0 0))] := hl
  clear eA
  rw [fX12_billCount] at h
  refine lv_aload_n hx hb dX12_billCount_0 rfl (lv_at hl 0 rfl) ?_
  refine va_get (D := D) (ci := 11) (v := .ref (h0 1)) (C := RX12) (T := TX12) (N := 10) hx hb hts iX12 hown hK hP 0 rfl rfl 0 (by decide) (hts _ qfl_X12_10) (fun _ h9 => h9) rfl dX12_billCount_1 ?_
  refine va_getN (D := D) (ci := 4) (v := .ref (h0 23)) (C := RX3) (T := TX3) (N := 7) hx hb hts iX3 hown hK hP 1 rfl rfl 4 (by decide) (hN.use qfn_X12_145) (fun _ h9 => h9) rfl dX12_billCount_4 ?_
  refine va_getN (D := D) (ci := 3) (v := .int s0.1.2.2.2.2.1.2.2.1) (C := RX2) (T := TX2) (N := 4) hx hb hts iX2 hown hK hP 23 rfl rfl 2 (by decide) (hN.use qfn_X12_293) (fun _ h9 => h9) rfl dX12_billCount_7 ?_
  have h := Option.some.inj h
  subst h
  exact xIret hx hb hr9 hlocks hP hK hD hS dX12_billCount_10
def fX12_openTotal (N : Nat)  (s0 : ThlS) : Option (Int32) :=
  xcall (fX2_total N s0.1.2.2.2.2.1) fun q1 =>
  some q1
set_option maxRecDepth 100000 in
set_option maxHeartbeats 4000000 in
theorem kX12_openTotal (l : Launch) (D : va_G) (cA : Nat → ClassId) (ad : Nat → Nat) (hr : Nat → Nat → Nat) (h0 : Nat → Nat) (sz N : Nat)  (s0 : ThlS) (q : Int32) (h : fX12_openTotal N s0 = some q) : zM l yX12_openTotal cX12_openTotal 1 (some .int) ({ frames := 1, cells := 0, slots := 0, locals := 22 }) D cA ad (ThlW cA ad hr h0 s0) sz [.ref (h0 0)] (some (.int q)) (ThlW cA ad hr h0 s0) := by
  generalize erm : ({ frames := 1, cells := 0, slots := 0, locals := 22 } : Room) = rm
  refine zMet (by decide) (Nat.le_of_ble_eq_true rfl) ?_
  intro p e s m below meth c hx hb hr9 hlocks hml hts hown hin hK hP A eA hD hS hA hsz hN hE ls hl
  have hl : lv_has ls 1 [(0, .ref (h0 0))] := hl
  clear eA
  rw [fX12_openTotal] at h
  refine lv_aload_n hx hb dX12_openTotal_0 rfl (lv_at hl 0 rfl) ?_
  refine va_get (D := D) (ci := 11) (v := .ref (h0 1)) (C := RX12) (T := TX12) (N := 10) hx hb hts iX12 hown hK hP 0 rfl rfl 0 (by decide) (hts _ qfl_X12_10) (fun _ h9 => h9) rfl dX12_openTotal_1 ?_
  refine va_getN (D := D) (ci := 4) (v := .ref (h0 23)) (C := RX3) (T := TX3) (N := 7) hx hb hts iX3 hown hK hP 1 rfl rfl 4 (by decide) (hN.use qfn_X12_145) (fun _ h9 => h9) rfl dX12_openTotal_4 ?_
  obtain ⟨q1, c1, h⟩ := x_call h
  refine xCallH (w2 := ThlW cA ad hr h0 s0) (zRunV (n := 0) (As := []) (rest := []) ⟨hx, hb, hml, hown, hts⟩ (kX2_total l D cA ad (fun k => h0 (k + 23)) _ N s0.1.2.2.2.2.1 q1 c1) qco_X2_total qml_X12_301 qin_X2_total qse_X2_total qini_X2 (by decide +kernel) (by rw [← erm]; rfl) hN hE hS hA hK hP hD [23, 24, 25] rfl rfl (q0 := 0) rfl rfl rfl rfl rfl hl.1 rfl (lv_room (Nat.le_of_ble_eq_true rfl)) dX12_openTotal_7 ⟨Nat.zero_le _, Nat.zero_le _⟩) hP hD hS hA [23, 24, 25] rfl rfl (xselH [none, none, none, none, none, none, none, none, none, none, none, none, none, none, none, none, none, none, none, none, none, none, none, some 0, some 1, some 2, none, none, none, none, none, none, none, none, none, none, none, none, none, none, none, none, none, none, none, none, none, none, none, none, none, none, none, none, none, none, none, none, none, none, none] rfl (by decide +kernel)) (fun H locs hP hD hS => ?_)
  have h := Option.some.inj h
  subst h
  exact xIret hx hb hr9 hlocks hP hK hD hS dX12_openTotal_10
def fX12_isConsistent (N : Nat)  (s0 : ThlS) : Option (Int32 × ThlS) :=
  xcall (fX1_allDebits N s0.1.1) fun q1 =>
  xcall (fX1_allCredits N s0.1.1) fun q2 =>
  xjoin (fun (t0_3 : Int32) (s0_3 : ThlS) =>
      xnz (xnar .boolean t0_3) <|
      some (t0_3, s0_3)
    ) fun J93 =>
  xjoin (fun (s0_5 : ThlS) =>
      J93 0 s0_5
    ) fun J92 =>
  if (lg_cmp q1 q2) = 0 then
    xcall (fX1_treesAgree N s0.1.1) fun q7 =>
    if q7 = 0 then
      J92 s0
    else
      xcall (fX11_costsAgree N s0.1.2.2.2.1) fun q9 =>
      if q9 = 0 then
        J92 s0
      else
        xcall (fX7_waysAgree N 50 s0.2.2.2.1 s0.1.2.2.2.2.1) fun q11 =>
        if q11.1 = 0 then
          J92 ((Thls3 (Thls0 s0 ((Boos4 s0.1 q11.2.2))) q11.2.1))
        else
          xcall (fX7_waysAgree N 100 q11.2.1 q11.2.2) fun q13 =>
          if q13.1 = 0 then
            J92 ((Thls3 (Thls0 s0 ((Boos4 s0.1 q13.2.2))) q13.2.1))
          else
            J93 1 ((Thls3 (Thls0 s0 ((Boos4 s0.1 q13.2.2))) q13.2.1))
  else
    J92 s0
set_option maxRecDepth 100000 in
set_option maxHeartbeats 4000000 in
theorem kX12_isConsistent (l : Launch) (D : va_G) (cA : Nat → ClassId) (ad : Nat → Nat) (hr : Nat → Nat → Nat) (h0 : Nat → Nat) (sz N : Nat)  (s0 : ThlS) (q : Int32 × ThlS) (h : fX12_isConsistent N s0 = some q) : zM l yX12_isConsistent cX12_isConsistent 1 (some .boolean) ({ frames := 4, cells := 0, slots := 0, locals := 91 }) D cA ad (ThlW cA ad hr h0 s0) sz [.ref (h0 0)] (some (.int q.1)) (ThlW cA ad hr h0 q.2) := by
  generalize erm : ({ frames := 4, cells := 0, slots := 0, locals := 91 } : Room) = rm
  refine zMet (by decide) (Nat.le_of_ble_eq_true rfl) ?_
  intro p e s m below meth c hx hb hr9 hlocks hml hts hown hin hK hP A eA hD hS hA hsz hN hE ls hl
  have hl : lv_has ls 1 [(0, .ref (h0 0))] := hl
  clear eA
  rw [fX12_isConsistent] at h
  refine lv_aload_n hx hb dX12_isConsistent_0 rfl (lv_at hl 0 rfl) ?_
  refine va_get (D := D) (ci := 11) (v := .ref (h0 1)) (C := RX12) (T := TX12) (N := 10) hx hb hts iX12 hown hK hP 0 rfl rfl 0 (by decide) (hts _ qfl_X12_10) (fun _ h9 => h9) rfl dX12_isConsistent_1 ?_
  refine va_getN (D := D) (ci := 4) (v := .ref (h0 2)) (C := RX3) (T := TX3) (N := 7) hx hb hts iX3 hown hK hP 1 rfl rfl 0 (by decide) (hN.use qfn_X12_51) (fun _ h9 => h9) rfl dX12_isConsistent_4 ?_
  obtain ⟨q1, c1, h⟩ := x_call h
  refine xCallH (w2 := ThlW cA ad hr h0 s0) (zRunV (n := 0) (As := []) (rest := []) ⟨hx, hb, hml, hown, hts⟩ (kX1_allDebits l D cA ad (fun k => h0 (k + 2)) _ N s0.1.1 q1 c1) qco_X1_allDebits qml_X12_208 qin_X1_allDebits qse_X1_allDebits qini_X1 (by decide +kernel) (by rw [← erm]; rfl) hN hE hS hA hK hP hD [2, 3, 4, 5, 6] rfl rfl (q0 := 0) rfl rfl rfl rfl rfl hl.1 rfl (lv_room (Nat.le_of_ble_eq_true rfl)) dX12_isConsistent_7 ⟨Nat.zero_le _, Nat.zero_le _⟩) hP hD hS hA [2, 3, 4, 5, 6] rfl rfl (xselH [none, none, some 0, some 1, some 2, some 3, some 4, none, none, none, none, none, none, none, none, none, none, none, none, none, none, none, none, none, none, none, none, none, none, none, none, none, none, none, none, none, none, none, none, none, none, none, none, none, none, none, none, none, none, none, none, none, none, none, none, none, none, none, none, none, none] rfl (by decide +kernel)) (fun H locs hP hD hS => ?_)
  refine lv_aload_n hx hb dX12_isConsistent_10 rfl (lv_at hl 0 rfl) ?_
  refine va_get (D := D) (ci := 11) (v := .ref (h0 1)) (C := RX12) (T := TX12) (N := 10) hx hb hts iX12 hown hK hP 0 rfl rfl 0 (by decide) (hts _ qfl_X12_10) (fun _ h9 => h9) rfl dX12_isConsistent_11 ?_
  refine va_getN (D := D) (ci := 4) (v := .ref (h0 2)) (C := RX3) (T := TX3) (N := 7) hx hb hts iX3 hown hK hP 1 rfl rfl 0 (by decide) (hN.use qfn_X12_51) (fun _ h9 => h9) rfl dX12_isConsistent_14 ?_
  obtain ⟨q2, c2, h⟩ := x_call h
  refine xCallH (w2 := ThlW cA ad hr h0 s0) (zRunV (n := 0) (As := []) (rest := [.long q1]) ⟨hx, hb, hml, hown, hts⟩ (kX1_allCredits l D cA ad (fun k => h0 (k + 2)) _ N s0.1.1 q2 c2) qco_X1_allCredits qml_X12_211 qin_X1_allCredits qse_X1_allCredits qini_X1 (by decide +kernel) (by rw [← erm]; rfl) hN hE hS hA hK hP hD [2, 3, 4, 5, 6] rfl rfl (q0 := 0) rfl rfl rfl rfl rfl hl.1 rfl (lv_room (Nat.le_of_ble_eq_true rfl)) dX12_isConsistent_17 ⟨Nat.zero_le _, Nat.zero_le _⟩) hP hD hS hA [2, 3, 4, 5, 6] rfl rfl (xselH [none, none, some 0, some 1, some 2, some 3, some 4, none, none, none, none, none, none, none, none, none, none, none, none, none, none, none, none, none, none, none, none, none, none, none, none, none, none, none, none, none, none, none, none, none, none, none, none, none, none, none, none, none, none, none, none, none, none, none, none, none, none, none, none, none, none] rfl (by decide +kernel)) (fun H locs hP hD hS => ?_)
  refine W.lcmp hx hb dX12_isConsistent_20 ?_
  obtain ⟨J93, eJ93, h⟩ := x_join h
  have hJ_J93 : ∀ (t0_3 : Int32) (s0_3 : ThlS) (H : Heap) (locs : List Loc), va_P D vwCl (ThlW cA ad hr h0 s0_3) H → va_D A (ThlW cA ad hr h0 s0_3) → va_S A s.heap H locs → ∀ ls : Array Slot, lv_has ls 1 [] → J93 t0_3 s0_3 = some q → W p l e rm s m ([.ref (h0 0)] : List Value).toArray below meth c H locs 0 0 (MQ below (xQ D cA A (ThlW cA ad hr h0 q.2) (some (.int q.1))) ([.ref (h0 0)] : List Value).toArray s 0 0 A) (F0 m 93 ls [.int t0_3]) := by
    clear h hP hD hS hl
    intro t0_3 s0_3 H locs hP hD hS ls hl h
    rw [eJ93] at h
    obtain ⟨z4, h⟩ := x_nz h
    have h := Option.some.inj h
    subst h
    exact xZret hx hb hr9 hlocks (xnar_n z4) hP hK hD hS dX12_isConsistent_93
  obtain ⟨J92, eJ92, h⟩ := x_join h
  have hJ_J92 : ∀ (s0_5 : ThlS) (H : Heap) (locs : List Loc), va_P D vwCl (ThlW cA ad hr h0 s0_5) H → va_D A (ThlW cA ad hr h0 s0_5) → va_S A s.heap H locs → ∀ ls : Array Slot, lv_has ls 1 [] → J92 s0_5 = some q → W p l e rm s m ([.ref (h0 0)] : List Value).toArray below meth c H locs 0 0 (MQ below (xQ D cA A (ThlW cA ad hr h0 q.2) (some (.int q.1))) ([.ref (h0 0)] : List Value).toArray s 0 0 A) (F0 m 92 ls []) := by
    clear h hP hD hS hl
    intro s0_5 H locs hP hD hS ls hl h
    rw [eJ92] at h
    refine lv_iconst (v := 0) hx hb dX12_isConsistent_92 (by decide) ?_
    exact hJ_J93 0 s0_5 _ _ hP hD hS _ (lv_sub hl [] rfl) h
  refine lv_if_ne (tgt := 92) hx hb dX12_isConsistent_21 (by decide) (fun c6 => ?_) (fun c6 => ?_)
  · have h := x_f h c6
    exact hJ_J92 s0 _ _ hP hD hS _ (lv_sub hl [] rfl) h
  · have h := x_t h c6
    refine lv_aload_n hx hb dX12_isConsistent_24 rfl (lv_at hl 0 rfl) ?_
    refine va_get (D := D) (ci := 11) (v := .ref (h0 1)) (C := RX12) (T := TX12) (N := 10) hx hb hts iX12 hown hK hP 0 rfl rfl 0 (by decide) (hts _ qfl_X12_10) (fun _ h9 => h9) rfl dX12_isConsistent_25 ?_
    refine va_getN (D := D) (ci := 4) (v := .ref (h0 2)) (C := RX3) (T := TX3) (N := 7) hx hb hts iX3 hown hK hP 1 rfl rfl 0 (by decide) (hN.use qfn_X12_51) (fun _ h9 => h9) rfl dX12_isConsistent_28 ?_
    obtain ⟨q7, c7, h⟩ := x_call h
    refine xCallH (w2 := ThlW cA ad hr h0 s0) (zRunV (n := 0) (As := []) (rest := []) ⟨hx, hb, hml, hown, hts⟩ (kX1_treesAgree l D cA ad (fun k => h0 (k + 2)) _ N s0.1.1 q7 c7) qco_X1_treesAgree qml_X12_328 qin_X1_treesAgree qse_X1_treesAgree qini_X1 (by decide +kernel) (by rw [← erm]; rfl) hN hE hS hA hK hP hD [2, 3, 4, 5, 6] rfl rfl (q0 := 0) rfl rfl rfl rfl rfl hl.1 rfl (lv_room (Nat.le_of_ble_eq_true rfl)) dX12_isConsistent_31 ⟨Nat.zero_le _, Nat.zero_le _⟩) hP hD hS hA [2, 3, 4, 5, 6] rfl rfl (xselH [none, none, some 0, some 1, some 2, some 3, some 4, none, none, none, none, none, none, none, none, none, none, none, none, none, none, none, none, none, none, none, none, none, none, none, none, none, none, none, none, none, none, none, none, none, none, none, none, none, none, none, none, none, none, none, none, none, none, none, none, none, none, none, none, none, none] rfl (by decide +kernel)) (fun H locs hP hD hS => ?_)
    refine lv_if_eq (tgt := 92) hx hb dX12_isConsistent_34 (by decide) (fun c8 => ?_) (fun c8 => ?_)
    · have h := x_t h c8
      exact hJ_J92 s0 _ _ hP hD hS _ (lv_sub hl [] rfl) h
    · have h := x_f h c8
      refine lv_aload_n hx hb dX12_isConsistent_37 rfl (lv_at hl 0 rfl) ?_
      refine va_get (D := D) (ci := 11) (v := .ref (h0 1)) (C := RX12) (T := TX12) (N := 10) hx hb hts iX12 hown hK hP 0 rfl rfl 0 (by decide) (hts _ qfl_X12_10) (fun _ h9 => h9) rfl dX12_isConsistent_38 ?_
      refine va_getN (D := D) (ci := 4) (v := .ref (h0 20)) (C := RX3) (T := TX3) (N := 7) hx hb hts iX3 hown hK hP 1 rfl rfl 3 (by decide) (hN.use qfn_X12_133) (fun _ h9 => h9) rfl dX12_isConsistent_41 ?_
      obtain ⟨q9, c9, h⟩ := x_call h
      refine xCallH (w2 := ThlW cA ad hr h0 s0) (zRunV (n := 0) (As := []) (rest := []) ⟨hx, hb, hml, hown, hts⟩ (kX11_costsAgree l D cA ad (fun k => h0 (k + 20)) _ N s0.1.2.2.2.1 q9 c9) qco_X11_costsAgree qml_X12_332 qin_X11_costsAgree qse_X11_costsAgree qini_X11 (by decide +kernel) (by rw [← erm]; rfl) hN hE hS hA hK hP hD [20, 21, 22] rfl rfl (q0 := 0) rfl rfl rfl rfl rfl hl.1 rfl (lv_room (Nat.le_of_ble_eq_true rfl)) dX12_isConsistent_44 ⟨Nat.zero_le _, Nat.zero_le _⟩) hP hD hS hA [20, 21, 22] rfl rfl (xselH [none, none, none, none, none, none, none, none, none, none, none, none, none, none, none, none, none, none, none, none, some 0, some 1, some 2, none, none, none, none, none, none, none, none, none, none, none, none, none, none, none, none, none, none, none, none, none, none, none, none, none, none, none, none, none, none, none, none, none, none, none, none, none, none] rfl (by decide +kernel)) (fun H locs hP hD hS => ?_)
      refine lv_if_eq (tgt := 92) hx hb dX12_isConsistent_47 (by decide) (fun c10 => ?_) (fun c10 => ?_)
      · have h := x_t h c10
        exact hJ_J92 s0 _ _ hP hD hS _ (lv_sub hl [] rfl) h
      · have h := x_f h c10
        refine lv_aload_n hx hb dX12_isConsistent_50 rfl (lv_at hl 0 rfl) ?_
        refine va_get (D := D) (ci := 11) (v := .ref (h0 53)) (C := RX12) (T := TX12) (N := 10) hx hb hts iX12 hown hK hP 0 rfl rfl 3 (by decide) (hts _ qfl_X12_29) (fun _ h9 => h9) rfl dX12_isConsistent_51 ?_
        refine lv_aload_n hx hb dX12_isConsistent_54 rfl (lv_at hl 0 rfl) ?_
        refine va_get (D := D) (ci := 11) (v := .ref (h0 1)) (C := RX12) (T := TX12) (N := 10) hx hb hts iX12 hown hK hP 0 rfl rfl 0 (by decide) (hts _ qfl_X12_10) (fun _ h9 => h9) rfl dX12_isConsistent_55 ?_
        refine va_getN (D := D) (ci := 4) (v := .ref (h0 23)) (C := RX3) (T := TX3) (N := 7) hx hb hts iX3 hown hK hP 1 rfl rfl 4 (by decide) (hN.use qfn_X12_145) (fun _ h9 => h9) rfl dX12_isConsistent_58 ?_
        refine lv_bipush (v := 50) hx hb dX12_isConsistent_61 (by decide) ?_
        obtain ⟨q11, c11, h⟩ := x_call h
        refine xCallH (w2 := ThlW cA ad hr h0 ((Thls3 (Thls0 s0 ((Boos4 s0.1 q11.2.2))) q11.2.1))) (zRunV (n := 2) (As := [.ref (h0 23), .int 50]) (rest := []) ⟨hx, hb, hml, hown, hts⟩ (kX7_waysAgree l D cA ad (fun k => h0 (k + 53)) (fun k => h0 (k + 23)) _ N 50 s0.2.2.2.1 s0.1.2.2.2.2.1 q11 c11) qco_X7_waysAgree qml_X12_335 qin_X7_waysAgree qse_X7_waysAgree qini_X7 (by decide +kernel) (by rw [← erm]; rfl) hN hE hS hA hK hP hD [53, 54, 55, 23, 24, 25] rfl rfl (q0 := 0) rfl rfl rfl rfl rfl hl.1 rfl (lv_room (Nat.le_of_ble_eq_true rfl)) dX12_isConsistent_63 ⟨Nat.zero_le _, Nat.zero_le _⟩) hP hD hS hA [53, 54, 55, 23, 24, 25] rfl rfl (xselH [none, none, none, none, none, none, none, none, none, none, none, none, none, none, none, none, none, none, none, none, none, none, none, some 3, some 4, some 5, none, none, none, none, none, none, none, none, none, none, none, none, none, none, none, none, none, none, none, none, none, none, none, none, none, none, none, some 0, some 1, some 2, none, none, none, none, none] rfl (by decide +kernel)) (fun H locs hP hD hS => ?_)
        refine lv_if_eq (tgt := 92) hx hb dX12_isConsistent_66 (by decide) (fun c12 => ?_) (fun c12 => ?_)
        · have h := x_t h c12
          exact hJ_J92 ((Thls3 (Thls0 s0 ((Boos4 s0.1 q11.2.2))) q11.2.1)) _ _ hP hD hS _ (lv_sub hl [] rfl) h
        · have h := x_f h c12
          refine lv_aload_n hx hb dX12_isConsistent_69 rfl (lv_at hl 0 rfl) ?_
          refine va_get (D := D) (ci := 11) (v := .ref (h0 53)) (C := RX12) (T := TX12) (N := 10) hx hb hts iX12 hown hK hP 0 rfl rfl 3 (by decide) (hts _ qfl_X12_29) (fun _ h9 => h9) rfl dX12_isConsistent_70 ?_
          refine lv_aload_n hx hb dX12_isConsistent_73 rfl (lv_at hl 0 rfl) ?_
          refine va_get (D := D) (ci := 11) (v := .ref (h0 1)) (C := RX12) (T := TX12) (N := 10) hx hb hts iX12 hown hK hP 0 rfl rfl 0 (by decide) (hts _ qfl_X12_10) (fun _ h9 => h9) rfl dX12_isConsistent_74 ?_
          refine va_getN (D := D) (ci := 4) (v := .ref (h0 23)) (C := RX3) (T := TX3) (N := 7) hx hb hts iX3 hown hK hP 1 rfl rfl 4 (by decide) (hN.use qfn_X12_145) (fun _ h9 => h9) rfl dX12_isConsistent_77 ?_
          refine lv_bipush (v := 100) hx hb dX12_isConsistent_80 (by decide) ?_
          obtain ⟨q13, c13, h⟩ := x_call h
          refine xCallH (w2 := ThlW cA ad hr h0 ((Thls3 (Thls0 s0 ((Boos4 s0.1 q13.2.2))) q13.2.1))) (zRunV (n := 2) (As := [.ref (h0 23), .int 100]) (rest := []) ⟨hx, hb, hml, hown, hts⟩ (kX7_waysAgree l D cA ad (fun k => h0 (k + 53)) (fun k => h0 (k + 23)) _ N 100 q11.2.1 q11.2.2 q13 c13) qco_X7_waysAgree qml_X12_335 qin_X7_waysAgree qse_X7_waysAgree qini_X7 (by decide +kernel) (by rw [← erm]; rfl) hN hE hS hA hK hP hD [53, 54, 55, 23, 24, 25] rfl rfl (q0 := 0) rfl rfl rfl rfl rfl hl.1 rfl (lv_room (Nat.le_of_ble_eq_true rfl)) dX12_isConsistent_82 ⟨Nat.zero_le _, Nat.zero_le _⟩) hP hD hS hA [53, 54, 55, 23, 24, 25] rfl rfl (xselH [none, none, none, none, none, none, none, none, none, none, none, none, none, none, none, none, none, none, none, none, none, none, none, some 3, some 4, some 5, none, none, none, none, none, none, none, none, none, none, none, none, none, none, none, none, none, none, none, none, none, none, none, none, none, none, none, some 0, some 1, some 2, none, none, none, none, none] rfl (by decide +kernel)) (fun H locs hP hD hS => ?_)
          refine lv_if_eq (tgt := 92) hx hb dX12_isConsistent_85 (by decide) (fun c14 => ?_) (fun c14 => ?_)
          · have h := x_t h c14
            exact hJ_J92 ((Thls3 (Thls0 s0 ((Boos4 s0.1 q13.2.2))) q13.2.1)) _ _ hP hD hS _ (lv_sub hl [] rfl) h
          · have h := x_f h c14
            refine lv_iconst (v := 1) hx hb dX12_isConsistent_88 (by decide) ?_
            refine lv_goto (tgt := 93) hx hb dX12_isConsistent_89 (by decide) ?_
            exact hJ_J93 1 ((Thls3 (Thls0 s0 ((Boos4 s0.1 q13.2.2))) q13.2.1)) _ _ hP hD hS _ (lv_sub hl [] rfl) h
def fX12_commandPost (N : Nat) (a1 : Int32) (a2 : Int32) (a3 : Int32) (s0 : ThlS) : Option (Nat × ThlS) :=
  xcall (fX1_faultOfEntry N a1 a2 a3 s0.1.1) fun q1 =>
  xjoin (fun (v4_2 : Nat) (s0_2 : ThlS) =>
      some (v4_2, s0_2)
    ) fun J35 =>
  xnz (decide (q1 < 6)) <|
  if q1 = 0 then
    xcall (fX3_makeEntry N a1 a2 (a3.toInt64) s0.1) fun q5 =>
    J35 q1 ((Thls0 s0 q5.2))
  else
    J35 q1 s0
set_option maxRecDepth 100000 in
set_option maxHeartbeats 4000000 in
theorem kX12_commandPost (l : Launch) (D : va_G) (cA : Nat → ClassId) (ad : Nat → Nat) (hr : Nat → Nat → Nat) (h0 : Nat → Nat) (sz N : Nat) (a1 : Int32) (a2 : Int32) (a3 : Int32) (s0 : ThlS) (q : Nat × ThlS) (h : fX12_commandPost N a1 a2 a3 s0 = some q) : zM l yX12_commandPost cX12_commandPost 5 (some (.object "TheatreLedger$Fault")) ({ frames := 3, cells := 0, slots := 0, locals := 71 }) D cA ad (ThlW cA ad hr h0 s0) sz [.ref (h0 0), .int a1, .int a2, .int a3] (some (.ref (ad q.1))) (ThlW cA ad hr h0 q.2) := by
  generalize erm : ({ frames := 3, cells := 0, slots := 0, locals := 71 } : Room) = rm
  refine zMet (by decide) (Nat.le_of_ble_eq_true rfl) ?_
  intro p e s m below meth c hx hb hr9 hlocks hml hts hown hin hK hP A eA hD hS hA hsz hN hE ls hl
  have hl : lv_has ls 5 [(0, .ref (h0 0)), (1, .int a1), (2, .int a2), (3, .int a3)] := hl
  clear eA
  rw [fX12_commandPost] at h
  refine lv_aload_n hx hb dX12_commandPost_0 rfl (lv_at hl 0 rfl) ?_
  refine va_get (D := D) (ci := 11) (v := .ref (h0 1)) (C := RX12) (T := TX12) (N := 10) hx hb hts iX12 hown hK hP 0 rfl rfl 0 (by decide) (hts _ qfl_X12_10) (fun _ h9 => h9) rfl dX12_commandPost_1 ?_
  refine va_getN (D := D) (ci := 4) (v := .ref (h0 2)) (C := RX3) (T := TX3) (N := 7) hx hb hts iX3 hown hK hP 1 rfl rfl 0 (by decide) (hN.use qfn_X12_51) (fun _ h9 => h9) rfl dX12_commandPost_4 ?_
  refine lv_iload_n hx hb dX12_commandPost_7 rfl (lv_at hl 1 rfl) ?_
  refine lv_iload_n hx hb dX12_commandPost_8 rfl (lv_at hl 2 rfl) ?_
  refine lv_iload_n hx hb dX12_commandPost_9 rfl (lv_at hl 3 rfl) ?_
  obtain ⟨q1, c1, h⟩ := x_call h
  refine xCallH (w2 := ThlW cA ad hr h0 s0) (zRunV (n := 3) (As := [.int a1, .int a2, .int a3]) (rest := []) ⟨hx, hb, hml, hown, hts⟩ (kX1_faultOfEntry l D cA ad (fun k => h0 (k + 2)) _ N a1 a2 a3 s0.1.1 q1 c1) qco_X1_faultOfEntry qml_X12_80 qin_X1_faultOfEntry qse_X1_faultOfEntry qini_X1 (by decide +kernel) (by rw [← erm]; rfl) hN hE hS hA hK hP hD [2, 3, 4, 5, 6] rfl rfl (q0 := 0) rfl rfl rfl rfl rfl hl.1 rfl (lv_room (Nat.le_of_ble_eq_true rfl)) dX12_commandPost_10 ⟨Nat.zero_le _, Nat.zero_le _⟩) hP hD hS hA [2, 3, 4, 5, 6] rfl rfl (xselH [none, none, some 0, some 1, some 2, some 3, some 4, none, none, none, none, none, none, none, none, none, none, none, none, none, none, none, none, none, none, none, none, none, none, none, none, none, none, none, none, none, none, none, none, none, none, none, none, none, none, none, none, none, none, none, none, none, none, none, none, none, none, none, none, none, none] rfl (by decide +kernel)) (fun H locs hP hD hS => ?_)
  refine lv_astore (lv' := [(4, .ref (ad q1)), (0, .ref (h0 0)), (1, .int a1), (2, .int a2), (3, .int a3)]) hx hb dX12_commandPost_13 hl (by decide) rfl (fun ls hl => ?_)
  refine lv_aload hx hb dX12_commandPost_15 (lv_at hl 0 rfl) ?_
  refine va_gets hx hb (xE.f0 hE) hS hown (hts _ qfl_X12_363) (fun _ h9 => h9) dX12_commandPost_17 ?_
  obtain ⟨J35, eJ35, h⟩ := x_join h
  have hJ_J35 : ∀ (v4_2 : Nat) (s0_2 : ThlS) (H : Heap) (locs : List Loc), va_P D vwCl (ThlW cA ad hr h0 s0_2) H → va_D A (ThlW cA ad hr h0 s0_2) → va_S A s.heap H locs → ∀ ls : Array Slot, lv_has ls 5 [(4, .ref (ad v4_2))] → J35 v4_2 s0_2 = some q → W p l e rm s m ([.ref (h0 0), .int a1, .int a2, .int a3] : List Value).toArray below meth c H locs 0 0 (MQ below (xQ D cA A (ThlW cA ad hr h0 q.2) (some (.ref (ad q.1)))) ([.ref (h0 0), .int a1, .int a2, .int a3] : List Value).toArray s 0 0 A) (F0 m 35 ls []) := by
    clear h hP hD hS hl
    intro v4_2 s0_2 H locs hP hD hS ls hl h
    rw [eJ35] at h
    refine lv_aload hx hb dX12_commandPost_35 (lv_at hl 0 rfl) ?_
    have h := Option.some.inj h
    subst h
    exact zAret (a := ad v4_2) hx hb hr9 hlocks hP hK hD hS dX12_commandPost_37
  obtain ⟨z3, h⟩ := x_nz h
  refine zAcmp_ne hE (tgt := 35) hx hb (of_decide_eq_true z3) (by decide) dX12_commandPost_20 (by decide) (fun c4 => ?_) (fun c4 => ?_)
  · have h := x_f h c4
    exact hJ_J35 q1 s0 _ _ hP hD hS _ (lv_sub hl [0] rfl) h
  · have h := x_t h c4
    refine lv_aload_n hx hb dX12_commandPost_23 rfl (lv_at hl 1 rfl) ?_
    refine va_get (D := D) (ci := 11) (v := .ref (h0 1)) (C := RX12) (T := TX12) (N := 10) hx hb hts iX12 hown hK hP 0 rfl rfl 0 (by decide) (hts _ qfl_X12_10) (fun _ h9 => h9) rfl dX12_commandPost_24 ?_
    refine lv_iload_n hx hb dX12_commandPost_27 rfl (lv_at hl 2 rfl) ?_
    refine lv_iload_n hx hb dX12_commandPost_28 rfl (lv_at hl 3 rfl) ?_
    refine lv_iload_n hx hb dX12_commandPost_29 rfl (lv_at hl 4 rfl) ?_
    refine lv_i2l hx hb dX12_commandPost_30 rfl ?_
    obtain ⟨q5, c5, h⟩ := x_call h
    refine xCallH (w2 := ThlW cA ad hr h0 ((Thls0 s0 q5.2))) (zRunV (n := 3) (As := [.int a1, .int a2, .long (a3.toInt64)]) (rest := []) ⟨hx, hb, hml, hown, hts⟩ (kX3_makeEntry l D cA ad (fun k => h0 (k + 1)) _ N a1 a2 (a3.toInt64) s0.1 q5 c5) qco_X3_makeEntry qml_X12_84 qin_X3_makeEntry qse_X3_makeEntry qini_X3 (by decide +kernel) (by rw [← erm]; rfl) hN hE hS hA hK hP hD [1, 2, 3, 4, 5, 6, 7, 8, 9, 10, 11, 12, 13, 14, 15, 16, 17, 18, 19, 20, 21, 22, 23, 24, 25] rfl rfl (q0 := 0) rfl rfl rfl rfl rfl hl.1 rfl (lv_room (Nat.le_of_ble_eq_true rfl)) dX12_commandPost_31 ⟨Nat.zero_le _, Nat.zero_le _⟩) hP hD hS hA [1, 2, 3, 4, 5, 6, 7, 8, 9, 10, 11, 12, 13, 14, 15, 16, 17, 18, 19, 20, 21, 22, 23, 24, 25] rfl rfl (xselH [none, some 0, some 1, some 2, some 3, some 4, some 5, some 6, some 7, some 8, some 9, some 10, some 11, some 12, some 13, some 14, some 15, some 16, some 17, some 18, some 19, some 20, some 21, some 22, some 23, some 24, none, none, none, none, none, none, none, none, none, none, none, none, none, none, none, none, none, none, none, none, none, none, none, none, none, none, none, none, none, none, none, none, none, none, none] rfl (by decide +kernel)) (fun H locs hP hD hS => ?_)
    refine lv_pop hx hb dX12_commandPost_34 rfl ?_
    exact hJ_J35 q1 ((Thls0 s0 q5.2)) _ _ hP hD hS _ (lv_sub hl [0] rfl) h
def fX12_commandBack (N : Nat) (a1 : Int32) (s0 : ThlS) : Option (Nat × ThlS) :=
  xcall (fX6_faultOfReversal N a1 s0.1.2.1) fun q1 =>
  xjoin (fun (v2_2 : Nat) (s0_2 : ThlS) =>
      some (v2_2, s0_2)
    ) fun J28 =>
  xnz (decide (q1 < 6)) <|
  if q1 = 0 then
    xcall (fX3_makeReversal N a1 s0.1) fun q5 =>
    J28 q1 ((Thls0 s0 q5.2))
  else
    J28 q1 s0
set_option maxRecDepth 100000 in
set_option maxHeartbeats 4000000 in
theorem kX12_commandBack (l : Launch) (D : va_G) (cA : Nat → ClassId) (ad : Nat → Nat) (hr : Nat → Nat → Nat) (h0 : Nat → Nat) (sz N : Nat) (a1 : Int32) (s0 : ThlS) (q : Nat × ThlS) (h : fX12_commandBack N a1 s0 = some q) : zM l yX12_commandBack cX12_commandBack 3 (some (.object "TheatreLedger$Fault")) ({ frames := 4, cells := 0, slots := 0, locals := 93 }) D cA ad (ThlW cA ad hr h0 s0) sz [.ref (h0 0), .int a1] (some (.ref (ad q.1))) (ThlW cA ad hr h0 q.2) := by
  generalize erm : ({ frames := 4, cells := 0, slots := 0, locals := 93 } : Room) = rm
  refine zMet (by decide) (Nat.le_of_ble_eq_true rfl) ?_
  intro p e s m below meth c hx hb hr9 hlocks hml hts hown hin hK hP A eA hD hS hA hsz hN hE ls hl
  have hl : lv_has ls 3 [(0, .ref (h0 0)), (1, .int a1)] := hl
  clear eA
  rw [fX12_commandBack] at h
  refine lv_aload_n hx hb dX12_commandBack_0 rfl (lv_at hl 0 rfl) ?_
  refine va_get (D := D) (ci := 11) (v := .ref (h0 1)) (C := RX12) (T := TX12) (N := 10) hx hb hts iX12 hown hK hP 0 rfl rfl 0 (by decide) (hts _ qfl_X12_10) (fun _ h9 => h9) rfl dX12_commandBack_1 ?_
  refine va_getN (D := D) (ci := 4) (v := .ref (h0 7)) (C := RX3) (T := TX3) (N := 7) hx hb hts iX3 hown hK hP 1 rfl rfl 1 (by decide) (hN.use qfn_X12_88) (fun _ h9 => h9) rfl dX12_commandBack_4 ?_
  refine lv_iload_n hx hb dX12_commandBack_7 rfl (lv_at hl 1 rfl) ?_
  obtain ⟨q1, c1, h⟩ := x_call h
  refine xCallH (w2 := ThlW cA ad hr h0 s0) (zRunV (n := 1) (As := [.int a1]) (rest := []) ⟨hx, hb, hml, hown, hts⟩ (kX6_faultOfReversal l D cA ad (fun k => h0 (k + 7)) _ N a1 s0.1.2.1 q1 c1) qco_X6_faultOfReversal qml_X12_92 qin_X6_faultOfReversal qse_X6_faultOfReversal qini_X6 (by decide +kernel) (by rw [← erm]; rfl) hN hE hS hA hK hP hD [7, 8, 9, 10, 11, 12] rfl rfl (q0 := 0) rfl rfl rfl rfl rfl hl.1 rfl (lv_room (Nat.le_of_ble_eq_true rfl)) dX12_commandBack_8 ⟨Nat.zero_le _, Nat.zero_le _⟩) hP hD hS hA [7, 8, 9, 10, 11, 12] rfl rfl (xselH [none, none, none, none, none, none, none, some 0, some 1, some 2, some 3, some 4, some 5, none, none, none, none, none, none, none, none, none, none, none, none, none, none, none, none, none, none, none, none, none, none, none, none, none, none, none, none, none, none, none, none, none, none, none, none, none, none, none, none, none, none, none, none, none, none, none, none] rfl (by decide +kernel)) (fun H locs hP hD hS => ?_)
  refine lv_astore_n (lv' := [(2, .ref (ad q1)), (0, .ref (h0 0)), (1, .int a1)]) hx hb dX12_commandBack_11 rfl hl (by decide) rfl (fun ls hl => ?_)
  refine lv_aload_n hx hb dX12_commandBack_12 rfl (lv_at hl 0 rfl) ?_
  refine va_gets hx hb (xE.f0 hE) hS hown (hts _ qfl_X12_363) (fun _ h9 => h9) dX12_commandBack_13 ?_
  obtain ⟨J28, eJ28, h⟩ := x_join h
  have hJ_J28 : ∀ (v2_2 : Nat) (s0_2 : ThlS) (H : Heap) (locs : List Loc), va_P D vwCl (ThlW cA ad hr h0 s0_2) H → va_D A (ThlW cA ad hr h0 s0_2) → va_S A s.heap H locs → ∀ ls : Array Slot, lv_has ls 3 [(2, .ref (ad v2_2))] → J28 v2_2 s0_2 = some q → W p l e rm s m ([.ref (h0 0), .int a1] : List Value).toArray below meth c H locs 0 0 (MQ below (xQ D cA A (ThlW cA ad hr h0 q.2) (some (.ref (ad q.1)))) ([.ref (h0 0), .int a1] : List Value).toArray s 0 0 A) (F0 m 28 ls []) := by
    clear h hP hD hS hl
    intro v2_2 s0_2 H locs hP hD hS ls hl h
    rw [eJ28] at h
    refine lv_aload_n hx hb dX12_commandBack_28 rfl (lv_at hl 0 rfl) ?_
    have h := Option.some.inj h
    subst h
    exact zAret (a := ad v2_2) hx hb hr9 hlocks hP hK hD hS dX12_commandBack_29
  obtain ⟨z3, h⟩ := x_nz h
  refine zAcmp_ne hE (tgt := 28) hx hb (of_decide_eq_true z3) (by decide) dX12_commandBack_16 (by decide) (fun c4 => ?_) (fun c4 => ?_)
  · have h := x_f h c4
    exact hJ_J28 q1 s0 _ _ hP hD hS _ (lv_sub hl [0] rfl) h
  · have h := x_t h c4
    refine lv_aload_n hx hb dX12_commandBack_19 rfl (lv_at hl 1 rfl) ?_
    refine va_get (D := D) (ci := 11) (v := .ref (h0 1)) (C := RX12) (T := TX12) (N := 10) hx hb hts iX12 hown hK hP 0 rfl rfl 0 (by decide) (hts _ qfl_X12_10) (fun _ h9 => h9) rfl dX12_commandBack_20 ?_
    refine lv_iload_n hx hb dX12_commandBack_23 rfl (lv_at hl 2 rfl) ?_
    obtain ⟨q5, c5, h⟩ := x_call h
    refine xCallH (w2 := ThlW cA ad hr h0 ((Thls0 s0 q5.2))) (zRunV (n := 1) (As := [.int a1]) (rest := []) ⟨hx, hb, hml, hown, hts⟩ (kX3_makeReversal l D cA ad (fun k => h0 (k + 1)) _ N a1 s0.1 q5 c5) qco_X3_makeReversal qml_X12_97 qin_X3_makeReversal qse_X3_makeReversal qini_X3 (by decide +kernel) (by rw [← erm]; rfl) hN hE hS hA hK hP hD [1, 2, 3, 4, 5, 6, 7, 8, 9, 10, 11, 12, 13, 14, 15, 16, 17, 18, 19, 20, 21, 22, 23, 24, 25] rfl rfl (q0 := 0) rfl rfl rfl rfl rfl hl.1 rfl (lv_room (Nat.le_of_ble_eq_true rfl)) dX12_commandBack_24 ⟨Nat.zero_le _, Nat.zero_le _⟩) hP hD hS hA [1, 2, 3, 4, 5, 6, 7, 8, 9, 10, 11, 12, 13, 14, 15, 16, 17, 18, 19, 20, 21, 22, 23, 24, 25] rfl rfl (xselH [none, some 0, some 1, some 2, some 3, some 4, some 5, some 6, some 7, some 8, some 9, some 10, some 11, some 12, some 13, some 14, some 15, some 16, some 17, some 18, some 19, some 20, some 21, some 22, some 23, some 24, none, none, none, none, none, none, none, none, none, none, none, none, none, none, none, none, none, none, none, none, none, none, none, none, none, none, none, none, none, none, none, none, none, none, none] rfl (by decide +kernel)) (fun H locs hP hD hS => ?_)
    refine lv_pop hx hb dX12_commandBack_27 rfl ?_
    exact hJ_J28 q1 ((Thls0 s0 q5.2)) _ _ hP hD hS _ (lv_sub hl [0] rfl) h
def fX12_commandOpen (N : Nat) (a1 : Int32) (a2 : Int32) (s0 : ThlS) : Option (Nat × ThlS) :=
  xjoin (fun (t0_1 : Nat) (v1_1 : Int32) (v2_1 : Int32) (s0_1 : ThlS) =>
      xnz (decide (t0_1 < 6)) <|
      if t0_1 = 0 then
        xjoin (fun (v1_4 : Int32) (v2_4 : Int32) (s0_4 : ThlS) =>
            xcall (fX1_add N v1_4 v2_4 s0_4.1.1) fun q5 =>
            some (0, (Thls0 s0_4 ((Boos0 s0_4.1 q5.2))))
          ) fun J64 =>
        if v2_1 = (-1) then
          J64 v1_1 v2_1 s0_1
        else
          xcall (fX1_kindAt N v2_1 s0_1.1.1) fun q7 =>
          if q7 = v1_1 then
            J64 v1_1 v2_1 s0_1
          else
            some (3, s0_1)
      else
        some (t0_1, s0_1)
    ) fun J30 =>
  if a2 = (-1) then
    xcall (fX1_faultOfNew N a1 s0.1.1) fun q11 =>
    J30 q11 a1 a2 s0
  else
    xcall (fX1_faultOfNewBelow N a2 s0.1.1) fun q10 =>
    J30 q10 a1 a2 s0
set_option maxRecDepth 100000 in
set_option maxHeartbeats 4000000 in
theorem kX12_commandOpen (l : Launch) (D : va_G) (cA : Nat → ClassId) (ad : Nat → Nat) (hr : Nat → Nat → Nat) (h0 : Nat → Nat) (sz N : Nat) (a1 : Int32) (a2 : Int32) (s0 : ThlS) (q : Nat × ThlS) (h : fX12_commandOpen N a1 a2 s0 = some q) : zM l yX12_commandOpen cX12_commandOpen 4 (some (.object "TheatreLedger$Fault")) ({ frames := 3, cells := 0, slots := 0, locals := 64 }) D cA ad (ThlW cA ad hr h0 s0) sz [.ref (h0 0), .int a1, .int a2] (some (.ref (ad q.1))) (ThlW cA ad hr h0 q.2) := by
  generalize erm : ({ frames := 3, cells := 0, slots := 0, locals := 64 } : Room) = rm
  refine zMet (by decide) (Nat.le_of_ble_eq_true rfl) ?_
  intro p e s m below meth c hx hb hr9 hlocks hml hts hown hin hK hP A eA hD hS hA hsz hN hE ls hl
  have hl : lv_has ls 4 [(0, .ref (h0 0)), (1, .int a1), (2, .int a2)] := hl
  clear eA
  rw [fX12_commandOpen] at h
  refine lv_iload_n hx hb dX12_commandOpen_0 rfl (lv_at hl 2 rfl) ?_
  refine lv_iconst (v := (-1)) hx hb dX12_commandOpen_1 (by decide) ?_
  obtain ⟨J30, eJ30, h⟩ := x_join h
  have hJ_J30 : ∀ (t0_1 : Nat) (v1_1 : Int32) (v2_1 : Int32) (s0_1 : ThlS) (H : Heap) (locs : List Loc), va_P D vwCl (ThlW cA ad hr h0 s0_1) H → va_D A (ThlW cA ad hr h0 s0_1) → va_S A s.heap H locs → ∀ ls : Array Slot, lv_has ls 4 [(0, .ref (h0 0)), (1, .int v1_1), (2, .int v2_1)] → J30 t0_1 v1_1 v2_1 s0_1 = some q → W p l e rm s m ([.ref (h0 0), .int a1, .int a2] : List Value).toArray below meth c H locs 0 0 (MQ below (xQ D cA A (ThlW cA ad hr h0 q.2) (some (.ref (ad q.1)))) ([.ref (h0 0), .int a1, .int a2] : List Value).toArray s 0 0 A) (F0 m 30 ls [.ref (ad t0_1)]) := by
    clear h hP hD hS hl
    intro t0_1 v1_1 v2_1 s0_1 H locs hP hD hS ls hl h
    rw [eJ30] at h
    refine lv_astore_n (lv' := [(3, .ref (ad t0_1)), (0, .ref (h0 0)), (1, .int v1_1), (2, .int v2_1)]) hx hb dX12_commandOpen_30 rfl hl (by decide) rfl (fun ls hl => ?_)
    refine lv_aload_n hx hb dX12_commandOpen_31 rfl (lv_at hl 0 rfl) ?_
    refine va_gets hx hb (xE.f0 hE) hS hown (hts _ qfl_X12_363) (fun _ h9 => h9) dX12_commandOpen_32 ?_
    obtain ⟨z2, h⟩ := x_nz h
    refine zAcmp_eq hE (tgt := 40) hx hb (of_decide_eq_true z2) (by decide) dX12_commandOpen_35 (by decide) (fun c3 => ?_) (fun c3 => ?_)
    · have h := x_t h c3
      refine lv_iload_n hx hb dX12_commandOpen_40 rfl (lv_at hl 3 rfl) ?_
      refine lv_iconst (v := (-1)) hx hb dX12_commandOpen_41 (by decide) ?_
      obtain ⟨J64, eJ64, h⟩ := x_join h
      have hJ_J64 : ∀ (v1_4 : Int32) (v2_4 : Int32) (s0_4 : ThlS) (H : Heap) (locs : List Loc), va_P D vwCl (ThlW cA ad hr h0 s0_4) H → va_D A (ThlW cA ad hr h0 s0_4) → va_S A s.heap H locs → ∀ ls : Array Slot, lv_has ls 4 [(0, .ref (h0 0)), (1, .int v1_4), (2, .int v2_4)] → J64 v1_4 v2_4 s0_4 = some q → W p l e rm s m ([.ref (h0 0), .int a1, .int a2] : List Value).toArray below meth c H locs 0 0 (MQ below (xQ D cA A (ThlW cA ad hr h0 q.2) (some (.ref (ad q.1)))) ([.ref (h0 0), .int a1, .int a2] : List Value).toArray s 0 0 A) (F0 m 64 ls []) := by
        clear h hP hD hS hl
        intro v1_4 v2_4 s0_4 H locs hP hD hS ls hl h
        rw [eJ64] at h
        refine lv_aload_n hx hb dX12_commandOpen_64 rfl (lv_at hl 0 rfl) ?_
        refine va_get (D := D) (ci := 11) (v := .ref (h0 1)) (C := RX12) (T := TX12) (N := 10) hx hb hts iX12 hown hK hP 0 rfl rfl 0 (by decide) (hts _ qfl_X12_10) (fun _ h9 => h9) rfl dX12_commandOpen_65 ?_
        refine va_getN (D := D) (ci := 4) (v := .ref (h0 2)) (C := RX3) (T := TX3) (N := 7) hx hb hts iX3 hown hK hP 1 rfl rfl 0 (by decide) (hN.use qfn_X12_51) (fun _ h9 => h9) rfl dX12_commandOpen_68 ?_
        refine lv_iload_n hx hb dX12_commandOpen_71 rfl (lv_at hl 1 rfl) ?_
        refine lv_iload_n hx hb dX12_commandOpen_72 rfl (lv_at hl 2 rfl) ?_
        obtain ⟨q5, c5, h⟩ := x_call h
        refine xCallH (w2 := ThlW cA ad hr h0 ((Thls0 s0_4 ((Boos0 s0_4.1 q5.2))))) (zRunV (n := 2) (As := [.int v1_4, .int v2_4]) (rest := []) ⟨hx, hb, hml, hown, hts⟩ (kX1_add l D cA ad (fun k => h0 (k + 2)) _ N v1_4 v2_4 s0_4.1.1 q5 c5) qco_X1_add qml_X12_68 qin_X1_add qse_X1_add qini_X1 (by decide +kernel) (by rw [← erm]; rfl) hN hE hS hA hK hP hD [2, 3, 4, 5, 6] rfl rfl (q0 := 0) rfl rfl rfl rfl rfl hl.1 rfl (lv_room (Nat.le_of_ble_eq_true rfl)) dX12_commandOpen_73 ⟨Nat.zero_le _, Nat.zero_le _⟩) hP hD hS hA [2, 3, 4, 5, 6] rfl rfl (xselH [none, none, some 0, some 1, some 2, some 3, some 4, none, none, none, none, none, none, none, none, none, none, none, none, none, none, none, none, none, none, none, none, none, none, none, none, none, none, none, none, none, none, none, none, none, none, none, none, none, none, none, none, none, none, none, none, none, none, none, none, none, none, none, none, none, none] rfl (by decide +kernel)) (fun H locs hP hD hS => ?_)
        refine lv_pop hx hb dX12_commandOpen_76 rfl ?_
        refine va_gets hx hb (xE.f0 hE) hS hown (hts _ qfl_X12_363) (fun _ h9 => h9) dX12_commandOpen_77 ?_
        have h := Option.some.inj h
        subst h
        exact zAret (a := ad 0) hx hb hr9 hlocks hP hK hD hS dX12_commandOpen_80
      refine lv_icmp_eq (tgt := 64) hx hb dX12_commandOpen_42 (by decide) (fun c6 => ?_) (fun c6 => ?_)
      · have h := x_t h c6
        exact hJ_J64 v1_1 v2_1 s0_1 _ _ hP hD hS _ (lv_sub hl [1, 2, 3] rfl) h
      · have h := x_f h c6
        refine lv_aload_n hx hb dX12_commandOpen_45 rfl (lv_at hl 1 rfl) ?_
        refine va_get (D := D) (ci := 11) (v := .ref (h0 1)) (C := RX12) (T := TX12) (N := 10) hx hb hts iX12 hown hK hP 0 rfl rfl 0 (by decide) (hts _ qfl_X12_10) (fun _ h9 => h9) rfl dX12_commandOpen_46 ?_
        refine va_getN (D := D) (ci := 4) (v := .ref (h0 2)) (C := RX3) (T := TX3) (N := 7) hx hb hts iX3 hown hK hP 1 rfl rfl 0 (by decide) (hN.use qfn_X12_51) (fun _ h9 => h9) rfl dX12_commandOpen_49 ?_
        refine lv_iload_n hx hb dX12_commandOpen_52 rfl (lv_at hl 3 rfl) ?_
        obtain ⟨q7, c7, h⟩ := x_call h
        refine xCallH (w2 := ThlW cA ad hr h0 s0_1) (zRunV (n := 1) (As := [.int v2_1]) (rest := []) ⟨hx, hb, hml, hown, hts⟩ (kX1_kindAt l D cA ad (fun k => h0 (k + 2)) _ N v2_1 s0_1.1.1 q7 c7) qco_X1_kindAt qml_X12_76 qin_X1_kindAt qse_X1_kindAt qini_X1 (by decide +kernel) (by rw [← erm]; rfl) hN hE hS hA hK hP hD [2, 3, 4, 5, 6] rfl rfl (q0 := 0) rfl rfl rfl rfl rfl hl.1 rfl (lv_room (Nat.le_of_ble_eq_true rfl)) dX12_commandOpen_53 ⟨Nat.zero_le _, Nat.zero_le _⟩) hP hD hS hA [2, 3, 4, 5, 6] rfl rfl (xselH [none, none, some 0, some 1, some 2, some 3, some 4, none, none, none, none, none, none, none, none, none, none, none, none, none, none, none, none, none, none, none, none, none, none, none, none, none, none, none, none, none, none, none, none, none, none, none, none, none, none, none, none, none, none, none, none, none, none, none, none, none, none, none, none, none, none] rfl (by decide +kernel)) (fun H locs hP hD hS => ?_)
        refine lv_iload_n hx hb dX12_commandOpen_56 rfl (lv_at hl 2 rfl) ?_
        refine lv_icmp_eq (tgt := 64) hx hb dX12_commandOpen_57 (by decide) (fun c8 => ?_) (fun c8 => ?_)
        · have h := x_t h c8
          exact hJ_J64 v1_1 v2_1 s0_1 _ _ hP hD hS _ (lv_sub hl [1, 2, 3] rfl) h
        · have h := x_f h c8
          refine va_gets hx hb (xE.f3 hE) hS hown (hts _ qfl_X12_428) (fun _ h9 => h9) dX12_commandOpen_60 ?_
          have h := Option.some.inj h
          subst h
          exact zAret (a := ad 3) hx hb hr9 hlocks hP hK hD hS dX12_commandOpen_63
    · have h := x_f h c3
      refine lv_aload_n hx hb dX12_commandOpen_38 rfl (lv_at hl 0 rfl) ?_
      have h := Option.some.inj h
      subst h
      exact zAret (a := ad t0_1) hx hb hr9 hlocks hP hK hD hS dX12_commandOpen_39
  refine lv_icmp_ne (tgt := 19) hx hb dX12_commandOpen_2 (by decide) (fun c9 => ?_) (fun c9 => ?_)
  · have h := x_f h c9
    refine lv_aload_n hx hb dX12_commandOpen_19 rfl (lv_at hl 0 rfl) ?_
    refine va_get (D := D) (ci := 11) (v := .ref (h0 1)) (C := RX12) (T := TX12) (N := 10) hx hb hts iX12 hown hK hP 0 rfl rfl 0 (by decide) (hts _ qfl_X12_10) (fun _ h9 => h9) rfl dX12_commandOpen_20 ?_
    refine va_getN (D := D) (ci := 4) (v := .ref (h0 2)) (C := RX3) (T := TX3) (N := 7) hx hb hts iX3 hown hK hP 1 rfl rfl 0 (by decide) (hN.use qfn_X12_51) (fun _ h9 => h9) rfl dX12_commandOpen_23 ?_
    refine lv_iload_n hx hb dX12_commandOpen_26 rfl (lv_at hl 2 rfl) ?_
    obtain ⟨q10, c10, h⟩ := x_call h
    refine xCallH (w2 := ThlW cA ad hr h0 s0) (zRunV (n := 1) (As := [.int a2]) (rest := []) ⟨hx, hb, hml, hown, hts⟩ (kX1_faultOfNewBelow l D cA ad (fun k => h0 (k + 2)) _ N a2 s0.1.1 q10 c10) qco_X1_faultOfNewBelow qml_X12_72 qin_X1_faultOfNewBelow qse_X1_faultOfNewBelow qini_X1 (by decide +kernel) (by rw [← erm]; rfl) hN hE hS hA hK hP hD [2, 3, 4, 5, 6] rfl rfl (q0 := 0) rfl rfl rfl rfl rfl hl.1 rfl (lv_room (Nat.le_of_ble_eq_true rfl)) dX12_commandOpen_27 ⟨Nat.zero_le _, Nat.zero_le _⟩) hP hD hS hA [2, 3, 4, 5, 6] rfl rfl (xselH [none, none, some 0, some 1, some 2, some 3, some 4, none, none, none, none, none, none, none, none, none, none, none, none, none, none, none, none, none, none, none, none, none, none, none, none, none, none, none, none, none, none, none, none, none, none, none, none, none, none, none, none, none, none, none, none, none, none, none, none, none, none, none, none, none, none] rfl (by decide +kernel)) (fun H locs hP hD hS => ?_)
    exact hJ_J30 q10 a1 a2 s0 _ _ hP hD hS _ (lv_sub hl [0, 1, 2] rfl) h
  · have h := x_t h c9
    refine lv_aload_n hx hb dX12_commandOpen_5 rfl (lv_at hl 0 rfl) ?_
    refine va_get (D := D) (ci := 11) (v := .ref (h0 1)) (C := RX12) (T := TX12) (N := 10) hx hb hts iX12 hown hK hP 0 rfl rfl 0 (by decide) (hts _ qfl_X12_10) (fun _ h9 => h9) rfl dX12_commandOpen_6 ?_
    refine va_getN (D := D) (ci := 4) (v := .ref (h0 2)) (C := RX3) (T := TX3) (N := 7) hx hb hts iX3 hown hK hP 1 rfl rfl 0 (by decide) (hN.use qfn_X12_51) (fun _ h9 => h9) rfl dX12_commandOpen_9 ?_
    refine lv_iload_n hx hb dX12_commandOpen_12 rfl (lv_at hl 1 rfl) ?_
    obtain ⟨q11, c11, h⟩ := x_call h
    refine xCallH (w2 := ThlW cA ad hr h0 s0) (zRunV (n := 1) (As := [.int a1]) (rest := []) ⟨hx, hb, hml, hown, hts⟩ (kX1_faultOfNew l D cA ad (fun k => h0 (k + 2)) _ N a1 s0.1.1 q11 c11) qco_X1_faultOfNew qml_X12_55 qin_X1_faultOfNew qse_X1_faultOfNew qini_X1 (by decide +kernel) (by rw [← erm]; rfl) hN hE hS hA hK hP hD [2, 3, 4, 5, 6] rfl rfl (q0 := 0) rfl rfl rfl rfl rfl hl.1 rfl (lv_room (Nat.le_of_ble_eq_true rfl)) dX12_commandOpen_13 ⟨Nat.zero_le _, Nat.zero_le _⟩) hP hD hS hA [2, 3, 4, 5, 6] rfl rfl (xselH [none, none, some 0, some 1, some 2, some 3, some 4, none, none, none, none, none, none, none, none, none, none, none, none, none, none, none, none, none, none, none, none, none, none, none, none, none, none, none, none, none, none, none, none, none, none, none, none, none, none, none, none, none, none, none, none, none, none, none, none, none, none, none, none, none, none] rfl (by decide +kernel)) (fun H locs hP hD hS => ?_)
    refine lv_goto (tgt := 30) hx hb dX12_commandOpen_16 (by decide) ?_
    exact hJ_J30 q11 a1 a2 s0 _ _ hP hD hS _ (lv_sub hl [0, 1, 2] rfl) h
def fX12_commandBuy (N : Nat) (a1 : Int32) (a2 : Int32) (s0 : ThlS) : Option (Nat × ThlS) :=
  xcall (fX3_faultOfBuying N a1 a2 s0.1) fun q1 =>
  xjoin (fun (v3_2 : Nat) (s0_2 : ThlS) =>
      some (v3_2, s0_2)
    ) fun J27 =>
  xnz (decide (q1 < 6)) <|
  if q1 = 0 then
    xcall (fX3_buyLot N a1 a2 s0.1) fun q5 =>
    J27 q1 ((Thls0 s0 q5.2))
  else
    J27 q1 s0
set_option maxRecDepth 100000 in
set_option maxHeartbeats 4000000 in
theorem kX12_commandBuy (l : Launch) (D : va_G) (cA : Nat → ClassId) (ad : Nat → Nat) (hr : Nat → Nat → Nat) (h0 : Nat → Nat) (sz N : Nat) (a1 : Int32) (a2 : Int32) (s0 : ThlS) (q : Nat × ThlS) (h : fX12_commandBuy N a1 a2 s0 = some q) : zM l yX12_commandBuy cX12_commandBuy 4 (some (.object "TheatreLedger$Fault")) ({ frames := 4, cells := 0, slots := 0, locals := 94 }) D cA ad (ThlW cA ad hr h0 s0) sz [.ref (h0 0), .int a1, .int a2] (some (.ref (ad q.1))) (ThlW cA ad hr h0 q.2) := by
  generalize erm : ({ frames := 4, cells := 0, slots := 0, locals := 94 } : Room) = rm
  refine zMet (by decide) (Nat.le_of_ble_eq_true rfl) ?_
  intro p e s m below meth c hx hb hr9 hlocks hml hts hown hin hK hP A eA hD hS hA hsz hN hE ls hl
  have hl : lv_has ls 4 [(0, .ref (h0 0)), (1, .int a1), (2, .int a2)] := hl
  clear eA
  rw [fX12_commandBuy] at h
  refine lv_aload_n hx hb dX12_commandBuy_0 rfl (lv_at hl 0 rfl) ?_
  refine va_get (D := D) (ci := 11) (v := .ref (h0 1)) (C := RX12) (T := TX12) (N := 10) hx hb hts iX12 hown hK hP 0 rfl rfl 0 (by decide) (hts _ qfl_X12_10) (fun _ h9 => h9) rfl dX12_commandBuy_1 ?_
  refine lv_iload_n hx hb dX12_commandBuy_4 rfl (lv_at hl 1 rfl) ?_
  refine lv_iload_n hx hb dX12_commandBuy_5 rfl (lv_at hl 2 rfl) ?_
  obtain ⟨q1, c1, h⟩ := x_call h
  refine xCallH (w2 := ThlW cA ad hr h0 s0) (zRunV (n := 2) (As := [.int a1, .int a2]) (rest := []) ⟨hx, hb, hml, hown, hts⟩ (kX3_faultOfBuying l D cA ad (fun k => h0 (k + 1)) _ N a1 a2 s0.1 q1 c1) qco_X3_faultOfBuying qml_X12_126 qin_X3_faultOfBuying qse_X3_faultOfBuying qini_X3 (by decide +kernel) (by rw [← erm]; rfl) hN hE hS hA hK hP hD [1, 2, 3, 4, 5, 6, 7, 8, 9, 10, 11, 12, 13, 14, 15, 16, 17, 18, 19, 20, 21, 22, 23, 24, 25] rfl rfl (q0 := 0) rfl rfl rfl rfl rfl hl.1 rfl (lv_room (Nat.le_of_ble_eq_true rfl)) dX12_commandBuy_6 ⟨Nat.zero_le _, Nat.zero_le _⟩) hP hD hS hA [1, 2, 3, 4, 5, 6, 7, 8, 9, 10, 11, 12, 13, 14, 15, 16, 17, 18, 19, 20, 21, 22, 23, 24, 25] rfl rfl (xselH [none, some 0, some 1, some 2, some 3, some 4, some 5, some 6, some 7, some 8, some 9, some 10, some 11, some 12, some 13, some 14, some 15, some 16, some 17, some 18, some 19, some 20, some 21, some 22, some 23, some 24, none, none, none, none, none, none, none, none, none, none, none, none, none, none, none, none, none, none, none, none, none, none, none, none, none, none, none, none, none, none, none, none, none, none, none] rfl (by decide +kernel)) (fun H locs hP hD hS => ?_)
  refine lv_astore_n (lv' := [(3, .ref (ad q1)), (0, .ref (h0 0)), (1, .int a1), (2, .int a2)]) hx hb dX12_commandBuy_9 rfl hl (by decide) rfl (fun ls hl => ?_)
  refine lv_aload_n hx hb dX12_commandBuy_10 rfl (lv_at hl 0 rfl) ?_
  refine va_gets hx hb (xE.f0 hE) hS hown (hts _ qfl_X12_363) (fun _ h9 => h9) dX12_commandBuy_11 ?_
  obtain ⟨J27, eJ27, h⟩ := x_join h
  have hJ_J27 : ∀ (v3_2 : Nat) (s0_2 : ThlS) (H : Heap) (locs : List Loc), va_P D vwCl (ThlW cA ad hr h0 s0_2) H → va_D A (ThlW cA ad hr h0 s0_2) → va_S A s.heap H locs → ∀ ls : Array Slot, lv_has ls 4 [(3, .ref (ad v3_2))] → J27 v3_2 s0_2 = some q → W p l e rm s m ([.ref (h0 0), .int a1, .int a2] : List Value).toArray below meth c H locs 0 0 (MQ below (xQ D cA A (ThlW cA ad hr h0 q.2) (some (.ref (ad q.1)))) ([.ref (h0 0), .int a1, .int a2] : List Value).toArray s 0 0 A) (F0 m 27 ls []) := by
    clear h hP hD hS hl
    intro v3_2 s0_2 H locs hP hD hS ls hl h
    rw [eJ27] at h
    refine lv_aload_n hx hb dX12_commandBuy_27 rfl (lv_at hl 0 rfl) ?_
    have h := Option.some.inj h
    subst h
    exact zAret (a := ad v3_2) hx hb hr9 hlocks hP hK hD hS dX12_commandBuy_28
  obtain ⟨z3, h⟩ := x_nz h
  refine zAcmp_ne hE (tgt := 27) hx hb (of_decide_eq_true z3) (by decide) dX12_commandBuy_14 (by decide) (fun c4 => ?_) (fun c4 => ?_)
  · have h := x_f h c4
    exact hJ_J27 q1 s0 _ _ hP hD hS _ (lv_sub hl [0] rfl) h
  · have h := x_t h c4
    refine lv_aload_n hx hb dX12_commandBuy_17 rfl (lv_at hl 1 rfl) ?_
    refine va_get (D := D) (ci := 11) (v := .ref (h0 1)) (C := RX12) (T := TX12) (N := 10) hx hb hts iX12 hown hK hP 0 rfl rfl 0 (by decide) (hts _ qfl_X12_10) (fun _ h9 => h9) rfl dX12_commandBuy_18 ?_
    refine lv_iload_n hx hb dX12_commandBuy_21 rfl (lv_at hl 2 rfl) ?_
    refine lv_iload_n hx hb dX12_commandBuy_22 rfl (lv_at hl 3 rfl) ?_
    obtain ⟨q5, c5, h⟩ := x_call h
    refine xCallH (w2 := ThlW cA ad hr h0 ((Thls0 s0 q5.2))) (zRunV (n := 2) (As := [.int a1, .int a2]) (rest := []) ⟨hx, hb, hml, hown, hts⟩ (kX3_buyLot l D cA ad (fun k => h0 (k + 1)) _ N a1 a2 s0.1 q5 c5) qco_X3_buyLot qml_X12_129 qin_X3_buyLot qse_X3_buyLot qini_X3 (by decide +kernel) (by rw [← erm]; rfl) hN hE hS hA hK hP hD [1, 2, 3, 4, 5, 6, 7, 8, 9, 10, 11, 12, 13, 14, 15, 16, 17, 18, 19, 20, 21, 22, 23, 24, 25] rfl rfl (q0 := 0) rfl rfl rfl rfl rfl hl.1 rfl (lv_room (Nat.le_of_ble_eq_true rfl)) dX12_commandBuy_23 ⟨Nat.zero_le _, Nat.zero_le _⟩) hP hD hS hA [1, 2, 3, 4, 5, 6, 7, 8, 9, 10, 11, 12, 13, 14, 15, 16, 17, 18, 19, 20, 21, 22, 23, 24, 25] rfl rfl (xselH [none, some 0, some 1, some 2, some 3, some 4, some 5, some 6, some 7, some 8, some 9, some 10, some 11, some 12, some 13, some 14, some 15, some 16, some 17, some 18, some 19, some 20, some 21, some 22, some 23, some 24, none, none, none, none, none, none, none, none, none, none, none, none, none, none, none, none, none, none, none, none, none, none, none, none, none, none, none, none, none, none, none, none, none, none, none] rfl (by decide +kernel)) (fun H locs hP hD hS => ?_)
    refine lv_pop hx hb dX12_commandBuy_26 rfl ?_
    exact hJ_J27 q1 ((Thls0 s0 q5.2)) _ _ hP hD hS _ (lv_sub hl [0] rfl) h
def fX12_commandSell (N : Nat) (a1 : Int32) (a2 : Int32) (s0 : ThlS) : Option (Nat × ThlS) :=
  xcall (fX11_faultOfSelling N a1 a2 s0.1.2.2.2.1) fun q1 =>
  xjoin (fun (v3_2 : Nat) (s0_2 : ThlS) =>
      some (v3_2, s0_2)
    ) fun J30 =>
  xnz (decide (q1 < 6)) <|
  if q1 = 0 then
    xcall (fX3_sellCostumes N a1 a2 s0.1) fun q5 =>
    J30 q1 ((Thls0 s0 q5.2))
  else
    J30 q1 s0
set_option maxRecDepth 100000 in
set_option maxHeartbeats 4000000 in
theorem kX12_commandSell (l : Launch) (D : va_G) (cA : Nat → ClassId) (ad : Nat → Nat) (hr : Nat → Nat → Nat) (h0 : Nat → Nat) (sz N : Nat) (a1 : Int32) (a2 : Int32) (s0 : ThlS) (q : Nat × ThlS) (h : fX12_commandSell N a1 a2 s0 = some q) : zM l yX12_commandSell cX12_commandSell 4 (some (.object "TheatreLedger$Fault")) ({ frames := 4, cells := 0, slots := 0, locals := 94 }) D cA ad (ThlW cA ad hr h0 s0) sz [.ref (h0 0), .int a1, .int a2] (some (.ref (ad q.1))) (ThlW cA ad hr h0 q.2) := by
  generalize erm : ({ frames := 4, cells := 0, slots := 0, locals := 94 } : Room) = rm
  refine zMet (by decide) (Nat.le_of_ble_eq_true rfl) ?_
  intro p e s m below meth c hx hb hr9 hlocks hml hts hown hin hK hP A eA hD hS hA hsz hN hE ls hl
  have hl : lv_has ls 4 [(0, .ref (h0 0)), (1, .int a1), (2, .int a2)] := hl
  clear eA
  rw [fX12_commandSell] at h
  refine lv_aload_n hx hb dX12_commandSell_0 rfl (lv_at hl 0 rfl) ?_
  refine va_get (D := D) (ci := 11) (v := .ref (h0 1)) (C := RX12) (T := TX12) (N := 10) hx hb hts iX12 hown hK hP 0 rfl rfl 0 (by decide) (hts _ qfl_X12_10) (fun _ h9 => h9) rfl dX12_commandSell_1 ?_
  refine va_getN (D := D) (ci := 4) (v := .ref (h0 20)) (C := RX3) (T := TX3) (N := 7) hx hb hts iX3 hown hK hP 1 rfl rfl 3 (by decide) (hN.use qfn_X12_133) (fun _ h9 => h9) rfl dX12_commandSell_4 ?_
  refine lv_iload_n hx hb dX12_commandSell_7 rfl (lv_at hl 1 rfl) ?_
  refine lv_iload_n hx hb dX12_commandSell_8 rfl (lv_at hl 2 rfl) ?_
  obtain ⟨q1, c1, h⟩ := x_call h
  refine xCallH (w2 := ThlW cA ad hr h0 s0) (zRunV (n := 2) (As := [.int a1, .int a2]) (rest := []) ⟨hx, hb, hml, hown, hts⟩ (kX11_faultOfSelling l D cA ad (fun k => h0 (k + 20)) _ N a1 a2 s0.1.2.2.2.1 q1 c1) qco_X11_faultOfSelling qml_X12_137 qin_X11_faultOfSelling qse_X11_faultOfSelling qini_X11 (by decide +kernel) (by rw [← erm]; rfl) hN hE hS hA hK hP hD [20, 21, 22] rfl rfl (q0 := 0) rfl rfl rfl rfl rfl hl.1 rfl (lv_room (Nat.le_of_ble_eq_true rfl)) dX12_commandSell_9 ⟨Nat.zero_le _, Nat.zero_le _⟩) hP hD hS hA [20, 21, 22] rfl rfl (xselH [none, none, none, none, none, none, none, none, none, none, none, none, none, none, none, none, none, none, none, none, some 0, some 1, some 2, none, none, none, none, none, none, none, none, none, none, none, none, none, none, none, none, none, none, none, none, none, none, none, none, none, none, none, none, none, none, none, none, none, none, none, none, none, none] rfl (by decide +kernel)) (fun H locs hP hD hS => ?_)
  refine lv_astore_n (lv' := [(3, .ref (ad q1)), (0, .ref (h0 0)), (1, .int a1), (2, .int a2)]) hx hb dX12_commandSell_12 rfl hl (by decide) rfl (fun ls hl => ?_)
  refine lv_aload_n hx hb dX12_commandSell_13 rfl (lv_at hl 0 rfl) ?_
  refine va_gets hx hb (xE.f0 hE) hS hown (hts _ qfl_X12_363) (fun _ h9 => h9) dX12_commandSell_14 ?_
  obtain ⟨J30, eJ30, h⟩ := x_join h
  have hJ_J30 : ∀ (v3_2 : Nat) (s0_2 : ThlS) (H : Heap) (locs : List Loc), va_P D vwCl (ThlW cA ad hr h0 s0_2) H → va_D A (ThlW cA ad hr h0 s0_2) → va_S A s.heap H locs → ∀ ls : Array Slot, lv_has ls 4 [(3, .ref (ad v3_2))] → J30 v3_2 s0_2 = some q → W p l e rm s m ([.ref (h0 0), .int a1, .int a2] : List Value).toArray below meth c H locs 0 0 (MQ below (xQ D cA A (ThlW cA ad hr h0 q.2) (some (.ref (ad q.1)))) ([.ref (h0 0), .int a1, .int a2] : List Value).toArray s 0 0 A) (F0 m 30 ls []) := by
    clear h hP hD hS hl
    intro v3_2 s0_2 H locs hP hD hS ls hl h
    rw [eJ30] at h
    refine lv_aload_n hx hb dX12_commandSell_30 rfl (lv_at hl 0 rfl) ?_
    have h := Option.some.inj h
    subst h
    exact zAret (a := ad v3_2) hx hb hr9 hlocks hP hK hD hS dX12_commandSell_31
  obtain ⟨z3, h⟩ := x_nz h
  refine zAcmp_ne hE (tgt := 30) hx hb (of_decide_eq_true z3) (by decide) dX12_commandSell_17 (by decide) (fun c4 => ?_) (fun c4 => ?_)
  · have h := x_f h c4
    exact hJ_J30 q1 s0 _ _ hP hD hS _ (lv_sub hl [0] rfl) h
  · have h := x_t h c4
    refine lv_aload_n hx hb dX12_commandSell_20 rfl (lv_at hl 1 rfl) ?_
    refine va_get (D := D) (ci := 11) (v := .ref (h0 1)) (C := RX12) (T := TX12) (N := 10) hx hb hts iX12 hown hK hP 0 rfl rfl 0 (by decide) (hts _ qfl_X12_10) (fun _ h9 => h9) rfl dX12_commandSell_21 ?_
    refine lv_iload_n hx hb dX12_commandSell_24 rfl (lv_at hl 2 rfl) ?_
    refine lv_iload_n hx hb dX12_commandSell_25 rfl (lv_at hl 3 rfl) ?_
    obtain ⟨q5, c5, h⟩ := x_call h
    refine xCallH (w2 := ThlW cA ad hr h0 ((Thls0 s0 q5.2))) (zRunV (n := 2) (As := [.int a1, .int a2]) (rest := []) ⟨hx, hb, hml, hown, hts⟩ (kX3_sellCostumes l D cA ad (fun k => h0 (k + 1)) _ N a1 a2 s0.1 q5 c5) qco_X3_sellCostumes qml_X12_142 qin_X3_sellCostumes qse_X3_sellCostumes qini_X3 (by decide +kernel) (by rw [← erm]; rfl) hN hE hS hA hK hP hD [1, 2, 3, 4, 5, 6, 7, 8, 9, 10, 11, 12, 13, 14, 15, 16, 17, 18, 19, 20, 21, 22, 23, 24, 25] rfl rfl (q0 := 0) rfl rfl rfl rfl rfl hl.1 rfl (lv_room (Nat.le_of_ble_eq_true rfl)) dX12_commandSell_26 ⟨Nat.zero_le _, Nat.zero_le _⟩) hP hD hS hA [1, 2, 3, 4, 5, 6, 7, 8, 9, 10, 11, 12, 13, 14, 15, 16, 17, 18, 19, 20, 21, 22, 23, 24, 25] rfl rfl (xselH [none, some 0, some 1, some 2, some 3, some 4, some 5, some 6, some 7, some 8, some 9, some 10, some 11, some 12, some 13, some 14, some 15, some 16, some 17, some 18, some 19, some 20, some 21, some 22, some 23, some 24, none, none, none, none, none, none, none, none, none, none, none, none, none, none, none, none, none, none, none, none, none, none, none, none, none, none, none, none, none, none, none, none, none, none, none] rfl (by decide +kernel)) (fun H locs hP hD hS => ?_)
    refine lv_pop hx hb dX12_commandSell_29 rfl ?_
    exact hJ_J30 q1 ((Thls0 s0 q5.2)) _ _ hP hD hS _ (lv_sub hl [0] rfl) h
def fX12_commandBill (N : Nat) (a1 : Int32) (s0 : ThlS) : Option (Nat × ThlS) :=
  xcall (fX2_faultOfNew N a1 s0.1.2.2.2.2.1) fun q1 =>
  xjoin (fun (v2_2 : Nat) (s0_2 : ThlS) =>
      some (v2_2, s0_2)
    ) fun J28 =>
  xnz (decide (q1 < 6)) <|
  if q1 = 0 then
    xcall (fX3_writeBill N a1 s0.1) fun q5 =>
    J28 q1 ((Thls0 s0 q5.2))
  else
    J28 q1 s0
set_option maxRecDepth 100000 in
set_option maxHeartbeats 4000000 in
theorem kX12_commandBill (l : Launch) (D : va_G) (cA : Nat → ClassId) (ad : Nat → Nat) (hr : Nat → Nat → Nat) (h0 : Nat → Nat) (sz N : Nat) (a1 : Int32) (s0 : ThlS) (q : Nat × ThlS) (h : fX12_commandBill N a1 s0 = some q) : zM l yX12_commandBill cX12_commandBill 3 (some (.object "TheatreLedger$Fault")) ({ frames := 4, cells := 0, slots := 0, locals := 92 }) D cA ad (ThlW cA ad hr h0 s0) sz [.ref (h0 0), .int a1] (some (.ref (ad q.1))) (ThlW cA ad hr h0 q.2) := by
  generalize erm : ({ frames := 4, cells := 0, slots := 0, locals := 92 } : Room) = rm
  refine zMet (by decide) (Nat.le_of_ble_eq_true rfl) ?_
  intro p e s m below meth c hx hb hr9 hlocks hml hts hown hin hK hP A eA hD hS hA hsz hN hE ls hl
  have hl : lv_has ls 3 [(0, .ref (h0 0)), (1, .int a1)] := hl
  clear eA
  rw [fX12_commandBill] at h
  refine lv_aload_n hx hb dX12_commandBill_0 rfl (lv_at hl 0 rfl) ?_
  refine va_get (D := D) (ci := 11) (v := .ref (h0 1)) (C := RX12) (T := TX12) (N := 10) hx hb hts iX12 hown hK hP 0 rfl rfl 0 (by decide) (hts _ qfl_X12_10) (fun _ h9 => h9) rfl dX12_commandBill_1 ?_
  refine va_getN (D := D) (ci := 4) (v := .ref (h0 23)) (C := RX3) (T := TX3) (N := 7) hx hb hts iX3 hown hK hP 1 rfl rfl 4 (by decide) (hN.use qfn_X12_145) (fun _ h9 => h9) rfl dX12_commandBill_4 ?_
  refine lv_iload_n hx hb dX12_commandBill_7 rfl (lv_at hl 1 rfl) ?_
  obtain ⟨q1, c1, h⟩ := x_call h
  refine xCallH (w2 := ThlW cA ad hr h0 s0) (zRunV (n := 1) (As := [.int a1]) (rest := []) ⟨hx, hb, hml, hown, hts⟩ (kX2_faultOfNew l D cA ad (fun k => h0 (k + 23)) _ N a1 s0.1.2.2.2.2.1 q1 c1) qco_X2_faultOfNew qml_X12_149 qin_X2_faultOfNew qse_X2_faultOfNew qini_X2 (by decide +kernel) (by rw [← erm]; rfl) hN hE hS hA hK hP hD [23, 24, 25] rfl rfl (q0 := 0) rfl rfl rfl rfl rfl hl.1 rfl (lv_room (Nat.le_of_ble_eq_true rfl)) dX12_commandBill_8 ⟨Nat.zero_le _, Nat.zero_le _⟩) hP hD hS hA [23, 24, 25] rfl rfl (xselH [none, none, none, none, none, none, none, none, none, none, none, none, none, none, none, none, none, none, none, none, none, none, none, some 0, some 1, some 2, none, none, none, none, none, none, none, none, none, none, none, none, none, none, none, none, none, none, none, none, none, none, none, none, none, none, none, none, none, none, none, none, none, none, none] rfl (by decide +kernel)) (fun H locs hP hD hS => ?_)
  refine lv_astore_n (lv' := [(2, .ref (ad q1)), (0, .ref (h0 0)), (1, .int a1)]) hx hb dX12_commandBill_11 rfl hl (by decide) rfl (fun ls hl => ?_)
  refine lv_aload_n hx hb dX12_commandBill_12 rfl (lv_at hl 0 rfl) ?_
  refine va_gets hx hb (xE.f0 hE) hS hown (hts _ qfl_X12_363) (fun _ h9 => h9) dX12_commandBill_13 ?_
  obtain ⟨J28, eJ28, h⟩ := x_join h
  have hJ_J28 : ∀ (v2_2 : Nat) (s0_2 : ThlS) (H : Heap) (locs : List Loc), va_P D vwCl (ThlW cA ad hr h0 s0_2) H → va_D A (ThlW cA ad hr h0 s0_2) → va_S A s.heap H locs → ∀ ls : Array Slot, lv_has ls 3 [(2, .ref (ad v2_2))] → J28 v2_2 s0_2 = some q → W p l e rm s m ([.ref (h0 0), .int a1] : List Value).toArray below meth c H locs 0 0 (MQ below (xQ D cA A (ThlW cA ad hr h0 q.2) (some (.ref (ad q.1)))) ([.ref (h0 0), .int a1] : List Value).toArray s 0 0 A) (F0 m 28 ls []) := by
    clear h hP hD hS hl
    intro v2_2 s0_2 H locs hP hD hS ls hl h
    rw [eJ28] at h
    refine lv_aload_n hx hb dX12_commandBill_28 rfl (lv_at hl 0 rfl) ?_
    have h := Option.some.inj h
    subst h
    exact zAret (a := ad v2_2) hx hb hr9 hlocks hP hK hD hS dX12_commandBill_29
  obtain ⟨z3, h⟩ := x_nz h
  refine zAcmp_ne hE (tgt := 28) hx hb (of_decide_eq_true z3) (by decide) dX12_commandBill_16 (by decide) (fun c4 => ?_) (fun c4 => ?_)
  · have h := x_f h c4
    exact hJ_J28 q1 s0 _ _ hP hD hS _ (lv_sub hl [0] rfl) h
  · have h := x_t h c4
    refine lv_aload_n hx hb dX12_commandBill_19 rfl (lv_at hl 1 rfl) ?_
    refine va_get (D := D) (ci := 11) (v := .ref (h0 1)) (C := RX12) (T := TX12) (N := 10) hx hb hts iX12 hown hK hP 0 rfl rfl 0 (by decide) (hts _ qfl_X12_10) (fun _ h9 => h9) rfl dX12_commandBill_20 ?_
    refine lv_iload_n hx hb dX12_commandBill_23 rfl (lv_at hl 2 rfl) ?_
    obtain ⟨q5, c5, h⟩ := x_call h
    refine xCallH (w2 := ThlW cA ad hr h0 ((Thls0 s0 q5.2))) (zRunV (n := 1) (As := [.int a1]) (rest := []) ⟨hx, hb, hml, hown, hts⟩ (kX3_writeBill l D cA ad (fun k => h0 (k + 1)) _ N a1 s0.1 q5 c5) qco_X3_writeBill qml_X12_153 qin_X3_writeBill qse_X3_writeBill qini_X3 (by decide +kernel) (by rw [← erm]; rfl) hN hE hS hA hK hP hD [1, 2, 3, 4, 5, 6, 7, 8, 9, 10, 11, 12, 13, 14, 15, 16, 17, 18, 19, 20, 21, 22, 23, 24, 25] rfl rfl (q0 := 0) rfl rfl rfl rfl rfl hl.1 rfl (lv_room (Nat.le_of_ble_eq_true rfl)) dX12_commandBill_24 ⟨Nat.zero_le _, Nat.zero_le _⟩) hP hD hS hA [1, 2, 3, 4, 5, 6, 7, 8, 9, 10, 11, 12, 13, 14, 15, 16, 17, 18, 19, 20, 21, 22, 23, 24, 25] rfl rfl (xselH [none, some 0, some 1, some 2, some 3, some 4, some 5, some 6, some 7, some 8, some 9, some 10, some 11, some 12, some 13, some 14, some 15, some 16, some 17, some 18, some 19, some 20, some 21, some 22, some 23, some 24, none, none, none, none, none, none, none, none, none, none, none, none, none, none, none, none, none, none, none, none, none, none, none, none, none, none, none, none, none, none, none, none, none, none, none] rfl (by decide +kernel)) (fun H locs hP hD hS => ?_)
    refine lv_pop hx hb dX12_commandBill_27 rfl ?_
    exact hJ_J28 q1 ((Thls0 s0 q5.2)) _ _ hP hD hS _ (lv_sub hl [0] rfl) h
def fX12_commandPay (N : Nat) (a1 : Int32) (s0 : ThlS) : Option (Nat × ThlS) :=
  xcall (fX2_faultOfPayment N a1 s0.1.2.2.2.2.1) fun q1 =>
  xjoin (fun (v2_2 : Nat) (s0_2 : ThlS) =>
      some (v2_2, s0_2)
    ) fun J43 =>
  xnz (decide (q1 < 6)) <|
  if q1 = 0 then
    xcall (fX7_chosenSet N a1 s0.2.2.2.1 s0.1.2.2.2.2.1) fun q5 =>
    xcall (fX3_takePayment N a1 q5.1 ((Boos4 s0.1 q5.2.2))) fun q6 =>
    J43 q1 ((Thls3 (Thls0 s0 q6.2) q5.2.1))
  else
    J43 q1 s0
set_option maxRecDepth 100000 in
set_option maxHeartbeats 4000000 in
theorem kX12_commandPay (l : Launch) (D : va_G) (cA : Nat → ClassId) (ad : Nat → Nat) (hr : Nat → Nat → Nat) (h0 : Nat → Nat) (sz N : Nat) (a1 : Int32) (s0 : ThlS) (q : Nat × ThlS) (h : fX12_commandPay N a1 s0 = some q) : zM l yX12_commandPay cX12_commandPay 3 (some (.object "TheatreLedger$Fault")) ({ frames := 4, cells := 0, slots := 0, locals := 93 }) D cA ad (ThlW cA ad hr h0 s0) sz [.ref (h0 0), .int a1] (some (.ref (ad q.1))) (ThlW cA ad hr h0 q.2) := by
  generalize erm : ({ frames := 4, cells := 0, slots := 0, locals := 93 } : Room) = rm
  refine zMet (by decide) (Nat.le_of_ble_eq_true rfl) ?_
  intro p e s m below meth c hx hb hr9 hlocks hml hts hown hin hK hP A eA hD hS hA hsz hN hE ls hl
  have hl : lv_has ls 3 [(0, .ref (h0 0)), (1, .int a1)] := hl
  clear eA
  rw [fX12_commandPay] at h
  refine lv_aload_n hx hb dX12_commandPay_0 rfl (lv_at hl 0 rfl) ?_
  refine va_get (D := D) (ci := 11) (v := .ref (h0 1)) (C := RX12) (T := TX12) (N := 10) hx hb hts iX12 hown hK hP 0 rfl rfl 0 (by decide) (hts _ qfl_X12_10) (fun _ h9 => h9) rfl dX12_commandPay_1 ?_
  refine va_getN (D := D) (ci := 4) (v := .ref (h0 23)) (C := RX3) (T := TX3) (N := 7) hx hb hts iX3 hown hK hP 1 rfl rfl 4 (by decide) (hN.use qfn_X12_145) (fun _ h9 => h9) rfl dX12_commandPay_4 ?_
  refine lv_iload_n hx hb dX12_commandPay_7 rfl (lv_at hl 1 rfl) ?_
  obtain ⟨q1, c1, h⟩ := x_call h
  refine xCallH (w2 := ThlW cA ad hr h0 s0) (zRunV (n := 1) (As := [.int a1]) (rest := []) ⟨hx, hb, hml, hown, hts⟩ (kX2_faultOfPayment l D cA ad (fun k => h0 (k + 23)) _ N a1 s0.1.2.2.2.2.1 q1 c1) qco_X2_faultOfPayment qml_X12_156 qin_X2_faultOfPayment qse_X2_faultOfPayment qini_X2 (by decide +kernel) (by rw [← erm]; rfl) hN hE hS hA hK hP hD [23, 24, 25] rfl rfl (q0 := 0) rfl rfl rfl rfl rfl hl.1 rfl (lv_room (Nat.le_of_ble_eq_true rfl)) dX12_commandPay_8 ⟨Nat.zero_le _, Nat.zero_le _⟩) hP hD hS hA [23, 24, 25] rfl rfl (xselH [none, none, none, none, none, none, none, none, none, none, none, none, none, none, none, none, none, none, none, none, none, none, none, some 0, some 1, some 2, none, none, none, none, none, none, none, none, none, none, none, none, none, none, none, none, none, none, none, none, none, none, none, none, none, none, none, none, none, none, none, none, none, none, none] rfl (by decide +kernel)) (fun H locs hP hD hS => ?_)
  refine lv_astore_n (lv' := [(2, .ref (ad q1)), (0, .ref (h0 0)), (1, .int a1)]) hx hb dX12_commandPay_11 rfl hl (by decide) rfl (fun ls hl => ?_)
  refine lv_aload_n hx hb dX12_commandPay_12 rfl (lv_at hl 0 rfl) ?_
  refine va_gets hx hb (xE.f0 hE) hS hown (hts _ qfl_X12_363) (fun _ h9 => h9) dX12_commandPay_13 ?_
  obtain ⟨J43, eJ43, h⟩ := x_join h
  have hJ_J43 : ∀ (v2_2 : Nat) (s0_2 : ThlS) (H : Heap) (locs : List Loc), va_P D vwCl (ThlW cA ad hr h0 s0_2) H → va_D A (ThlW cA ad hr h0 s0_2) → va_S A s.heap H locs → ∀ ls : Array Slot, lv_has ls 3 [(2, .ref (ad v2_2))] → J43 v2_2 s0_2 = some q → W p l e rm s m ([.ref (h0 0), .int a1] : List Value).toArray below meth c H locs 0 0 (MQ below (xQ D cA A (ThlW cA ad hr h0 q.2) (some (.ref (ad q.1)))) ([.ref (h0 0), .int a1] : List Value).toArray s 0 0 A) (F0 m 43 ls []) := by
    clear h hP hD hS hl
    intro v2_2 s0_2 H locs hP hD hS ls hl h
    rw [eJ43] at h
    refine lv_aload_n hx hb dX12_commandPay_43 rfl (lv_at hl 0 rfl) ?_
    have h := Option.some.inj h
    subst h
    exact zAret (a := ad v2_2) hx hb hr9 hlocks hP hK hD hS dX12_commandPay_44
  obtain ⟨z3, h⟩ := x_nz h
  refine zAcmp_ne hE (tgt := 43) hx hb (of_decide_eq_true z3) (by decide) dX12_commandPay_16 (by decide) (fun c4 => ?_) (fun c4 => ?_)
  · have h := x_f h c4
    exact hJ_J43 q1 s0 _ _ hP hD hS _ (lv_sub hl [0] rfl) h
  · have h := x_t h c4
    refine lv_aload_n hx hb dX12_commandPay_19 rfl (lv_at hl 1 rfl) ?_
    refine va_get (D := D) (ci := 11) (v := .ref (h0 1)) (C := RX12) (T := TX12) (N := 10) hx hb hts iX12 hown hK hP 0 rfl rfl 0 (by decide) (hts _ qfl_X12_10) (fun _ h9 => h9) rfl dX12_commandPay_20 ?_
    refine lv_iload_n hx hb dX12_commandPay_23 rfl (lv_at hl 2 rfl) ?_
    refine lv_aload_n hx hb dX12_commandPay_24 rfl (lv_at hl 1 rfl) ?_
    refine va_get (D := D) (ci := 11) (v := .ref (h0 53)) (C := RX12) (T := TX12) (N := 10) hx hb hts iX12 hown hK hP 0 rfl rfl 3 (by decide) (hts _ qfl_X12_29) (fun _ h9 => h9) rfl dX12_commandPay_25 ?_
    refine lv_aload_n hx hb dX12_commandPay_28 rfl (lv_at hl 1 rfl) ?_
    refine va_get (D := D) (ci := 11) (v := .ref (h0 1)) (C := RX12) (T := TX12) (N := 10) hx hb hts iX12 hown hK hP 0 rfl rfl 0 (by decide) (hts _ qfl_X12_10) (fun _ h9 => h9) rfl dX12_commandPay_29 ?_
    refine va_getN (D := D) (ci := 4) (v := .ref (h0 23)) (C := RX3) (T := TX3) (N := 7) hx hb hts iX3 hown hK hP 1 rfl rfl 4 (by decide) (hN.use qfn_X12_145) (fun _ h9 => h9) rfl dX12_commandPay_32 ?_
    refine lv_iload_n hx hb dX12_commandPay_35 rfl (lv_at hl 2 rfl) ?_
    obtain ⟨q5, c5, h⟩ := x_call h
    refine xCallH (w2 := ThlW cA ad hr h0 ((Thls3 (Thls0 s0 ((Boos4 s0.1 q5.2.2))) q5.2.1))) (zRunV (n := 2) (As := [.ref (h0 23), .int a1]) (rest := [.int a1, .ref (h0 1)]) ⟨hx, hb, hml, hown, hts⟩ (kX7_chosenSet l D cA ad (fun k => h0 (k + 53)) (fun k => h0 (k + 23)) _ N a1 s0.2.2.2.1 s0.1.2.2.2.2.1 q5 c5) qco_X7_chosenSet qml_X12_159 qin_X7_chosenSet qse_X7_chosenSet qini_X7 (by decide +kernel) (by rw [← erm]; rfl) hN hE hS hA hK hP hD [53, 54, 55, 23, 24, 25] rfl rfl (q0 := 0) rfl rfl rfl rfl rfl hl.1 rfl (lv_room (Nat.le_of_ble_eq_true rfl)) dX12_commandPay_36 ⟨Nat.zero_le _, Nat.zero_le _⟩) hP hD hS hA [53, 54, 55, 23, 24, 25] rfl rfl (xselH [none, none, none, none, none, none, none, none, none, none, none, none, none, none, none, none, none, none, none, none, none, none, none, some 3, some 4, some 5, none, none, none, none, none, none, none, none, none, none, none, none, none, none, none, none, none, none, none, none, none, none, none, none, none, none, none, some 0, some 1, some 2, none, none, none, none, none] rfl (by decide +kernel)) (fun H locs hP hD hS => ?_)
    obtain ⟨q6, c6, h⟩ := x_call h
    refine xCallH (w2 := ThlW cA ad hr h0 ((Thls3 (Thls0 s0 q6.2) q5.2.1))) (zRunV (n := 2) (As := [.int a1, .int q5.1]) (rest := []) ⟨hx, hb, hml, hown, hts⟩ (kX3_takePayment l D cA ad (fun k => h0 (k + 1)) _ N a1 q5.1 ((Boos4 s0.1 q5.2.2)) q6 c6) qco_X3_takePayment qml_X12_163 qin_X3_takePayment qse_X3_takePayment qini_X3 (by decide +kernel) (by rw [← erm]; rfl) hN hE hS hA hK hP hD [1, 2, 3, 4, 5, 6, 7, 8, 9, 10, 11, 12, 13, 14, 15, 16, 17, 18, 19, 20, 21, 22, 23, 24, 25] rfl rfl (q0 := 0) rfl rfl rfl rfl rfl hl.1 rfl (lv_room (Nat.le_of_ble_eq_true rfl)) dX12_commandPay_39 ⟨Nat.zero_le _, Nat.zero_le _⟩) hP hD hS hA [1, 2, 3, 4, 5, 6, 7, 8, 9, 10, 11, 12, 13, 14, 15, 16, 17, 18, 19, 20, 21, 22, 23, 24, 25] rfl rfl (xselH [none, some 0, some 1, some 2, some 3, some 4, some 5, some 6, some 7, some 8, some 9, some 10, some 11, some 12, some 13, some 14, some 15, some 16, some 17, some 18, some 19, some 20, some 21, some 22, some 23, some 24, none, none, none, none, none, none, none, none, none, none, none, none, none, none, none, none, none, none, none, none, none, none, none, none, none, none, none, none, none, none, none, none, none, none, none] rfl (by decide +kernel)) (fun H locs hP hD hS => ?_)
    refine lv_pop hx hb dX12_commandPay_42 rfl ?_
    exact hJ_J43 q1 ((Thls3 (Thls0 s0 q6.2) q5.2.1)) _ _ hP hD hS _ (lv_sub hl [0] rfl) h
def fX12_commandWait (N : Nat) (a1 : Int32) (s0 : ThlS) : Option (Nat × ThlS) :=
  xcall (fX12_faultOfHours N a1) fun q1 =>
  xjoin (fun (v2_2 : Nat) (s0_2 : ThlS) =>
      some (v2_2, s0_2)
    ) fun J21 =>
  xnz (decide (q1 < 6)) <|
  if q1 = 0 then
    xcall (fX3_letPass N a1 s0.1) fun q5 =>
    J21 q1 ((Thls0 s0 q5.2))
  else
    J21 q1 s0
set_option maxRecDepth 100000 in
set_option maxHeartbeats 4000000 in
theorem kX12_commandWait (l : Launch) (D : va_G) (cA : Nat → ClassId) (ad : Nat → Nat) (hr : Nat → Nat → Nat) (h0 : Nat → Nat) (sz N : Nat) (a1 : Int32) (s0 : ThlS) (q : Nat × ThlS) (h : fX12_commandWait N a1 s0 = some q) : zM l yX12_commandWait cX12_commandWait 3 (some (.object "TheatreLedger$Fault")) ({ frames := 4, cells := 0, slots := 0, locals := 95 }) D cA ad (ThlW cA ad hr h0 s0) sz [.ref (h0 0), .int a1] (some (.ref (ad q.1))) (ThlW cA ad hr h0 q.2) := by
  generalize erm : ({ frames := 4, cells := 0, slots := 0, locals := 95 } : Room) = rm
  refine zMet (by decide) (Nat.le_of_ble_eq_true rfl) ?_
  intro p e s m below meth c hx hb hr9 hlocks hml hts hown hin hK hP A eA hD hS hA hsz hN hE ls hl
  have hl : lv_has ls 3 [(0, .ref (h0 0)), (1, .int a1)] := hl
  clear eA
  rw [fX12_commandWait] at h
  refine lv_iload_n hx hb dX12_commandWait_0 rfl (lv_at hl 1 rfl) ?_
  obtain ⟨q1, c1, h⟩ := x_call h
  refine xCallH (w2 := ThlW cA ad hr h0 s0) (zRunS (n := 1) (As := [.int a1]) (rest := []) ⟨hx, hb, hml, hown, hts⟩ (kX12_faultOfHours l D cA ad  _ N a1 q1 c1) qco_X12_faultOfHours qml_X12_120 qst_X12_faultOfHours qini_X12 (by decide +kernel) (by rw [← erm]; rfl) hN hE hS hA hK hP hD [] rfl rfl rfl rfl hl.1 rfl (lv_room (Nat.le_of_ble_eq_true rfl)) dX12_commandWait_1 ⟨Nat.zero_le _, Nat.zero_le _⟩) hP hD hS hA [] rfl rfl (xselH [none, none, none, none, none, none, none, none, none, none, none, none, none, none, none, none, none, none, none, none, none, none, none, none, none, none, none, none, none, none, none, none, none, none, none, none, none, none, none, none, none, none, none, none, none, none, none, none, none, none, none, none, none, none, none, none, none, none, none, none, none] rfl (by decide +kernel)) (fun H locs hP hD hS => ?_)
  refine lv_astore_n (lv' := [(2, .ref (ad q1)), (0, .ref (h0 0)), (1, .int a1)]) hx hb dX12_commandWait_4 rfl hl (by decide) rfl (fun ls hl => ?_)
  refine lv_aload_n hx hb dX12_commandWait_5 rfl (lv_at hl 0 rfl) ?_
  refine va_gets hx hb (xE.f0 hE) hS hown (hts _ qfl_X12_363) (fun _ h9 => h9) dX12_commandWait_6 ?_
  obtain ⟨J21, eJ21, h⟩ := x_join h
  have hJ_J21 : ∀ (v2_2 : Nat) (s0_2 : ThlS) (H : Heap) (locs : List Loc), va_P D vwCl (ThlW cA ad hr h0 s0_2) H → va_D A (ThlW cA ad hr h0 s0_2) → va_S A s.heap H locs → ∀ ls : Array Slot, lv_has ls 3 [(2, .ref (ad v2_2))] → J21 v2_2 s0_2 = some q → W p l e rm s m ([.ref (h0 0), .int a1] : List Value).toArray below meth c H locs 0 0 (MQ below (xQ D cA A (ThlW cA ad hr h0 q.2) (some (.ref (ad q.1)))) ([.ref (h0 0), .int a1] : List Value).toArray s 0 0 A) (F0 m 21 ls []) := by
    clear h hP hD hS hl
    intro v2_2 s0_2 H locs hP hD hS ls hl h
    rw [eJ21] at h
    refine lv_aload_n hx hb dX12_commandWait_21 rfl (lv_at hl 0 rfl) ?_
    have h := Option.some.inj h
    subst h
    exact zAret (a := ad v2_2) hx hb hr9 hlocks hP hK hD hS dX12_commandWait_22
  obtain ⟨z3, h⟩ := x_nz h
  refine zAcmp_ne hE (tgt := 21) hx hb (of_decide_eq_true z3) (by decide) dX12_commandWait_9 (by decide) (fun c4 => ?_) (fun c4 => ?_)
  · have h := x_f h c4
    exact hJ_J21 q1 s0 _ _ hP hD hS _ (lv_sub hl [0] rfl) h
  · have h := x_t h c4
    refine lv_aload_n hx hb dX12_commandWait_12 rfl (lv_at hl 1 rfl) ?_
    refine va_get (D := D) (ci := 11) (v := .ref (h0 1)) (C := RX12) (T := TX12) (N := 10) hx hb hts iX12 hown hK hP 0 rfl rfl 0 (by decide) (hts _ qfl_X12_10) (fun _ h9 => h9) rfl dX12_commandWait_13 ?_
    refine lv_iload_n hx hb dX12_commandWait_16 rfl (lv_at hl 2 rfl) ?_
    obtain ⟨q5, c5, h⟩ := x_call h
    refine xCallH (w2 := ThlW cA ad hr h0 ((Thls0 s0 q5.2))) (zRunV (n := 1) (As := [.int a1]) (rest := []) ⟨hx, hb, hml, hown, hts⟩ (kX3_letPass l D cA ad (fun k => h0 (k + 1)) _ N a1 s0.1 q5 c5) qco_X3_letPass qml_X12_123 qin_X3_letPass qse_X3_letPass qini_X3 (by decide +kernel) (by rw [← erm]; rfl) hN hE hS hA hK hP hD [1, 2, 3, 4, 5, 6, 7, 8, 9, 10, 11, 12, 13, 14, 15, 16, 17, 18, 19, 20, 21, 22, 23, 24, 25] rfl rfl (q0 := 0) rfl rfl rfl rfl rfl hl.1 rfl (lv_room (Nat.le_of_ble_eq_true rfl)) dX12_commandWait_17 ⟨Nat.zero_le _, Nat.zero_le _⟩) hP hD hS hA [1, 2, 3, 4, 5, 6, 7, 8, 9, 10, 11, 12, 13, 14, 15, 16, 17, 18, 19, 20, 21, 22, 23, 24, 25] rfl rfl (xselH [none, some 0, some 1, some 2, some 3, some 4, some 5, some 6, some 7, some 8, some 9, some 10, some 11, some 12, some 13, some 14, some 15, some 16, some 17, some 18, some 19, some 20, some 21, some 22, some 23, some 24, none, none, none, none, none, none, none, none, none, none, none, none, none, none, none, none, none, none, none, none, none, none, none, none, none, none, none, none, none, none, none, none, none, none, none] rfl (by decide +kernel)) (fun H locs hP hD hS => ?_)
    refine lv_pop hx hb dX12_commandWait_20 rfl ?_
    exact hJ_J21 q1 ((Thls0 s0 q5.2)) _ _ hP hD hS _ (lv_sub hl [0] rfl) h
def fX12_carryOut (N : Nat) (a1 : Int32) (s0 : ThlS) : Option (Nat × ThlS) :=
  xcall (fX9_verbAt N a1 s0.2.2.2.2.1) fun q1 =>
  xopt q1 (
    some (3, s0)
  ) fun c2 =>
    xcall (fX9_valueAt N a1 0 s0.2.2.2.2.1) fun q3 =>
    xcall (fX9_valueAt N a1 1 s0.2.2.2.2.1) fun q4 =>
    xvb c2 fun j5 =>
    xrd 9 (Int32.ofNat j5) fun k6 =>
    xlet (Int32.ofNat (k6 + 1)) fun x7 =>
    if x7 = 1 then
      xcall (fX9_valueAt N a1 2 s0.2.2.2.2.1) fun q9 =>
      xcall (fX12_commandPost N q3 q4 q9 s0) fun q10 =>
      some (q10.1, q10.2)
    else
    if x7 = 2 then
      xcall (fX12_commandBack N q3 s0) fun q11 =>
      some (q11.1, q11.2)
    else
    if x7 = 3 then
      xcall (fX12_commandOpen N (((Int32.toUInt32 q3) % 65536).toInt32) q4 s0) fun q12 =>
      some (q12.1, q12.2)
    else
    if x7 = 4 then
      xcall (fX12_commandBuy N q3 q4 s0) fun q13 =>
      some (q13.1, q13.2)
    else
    if x7 = 5 then
      xcall (fX12_commandSell N q3 q4 s0) fun q14 =>
      some (q14.1, q14.2)
    else
    if x7 = 6 then
      xcall (fX12_commandBill N q3 s0) fun q15 =>
      some (q15.1, q15.2)
    else
    if x7 = 7 then
      xcall (fX12_commandPay N q3 s0) fun q16 =>
      some (q16.1, q16.2)
    else
    if x7 = 8 then
      xjoin (fun (t0_17 : Int32) (s0_17 : ThlS) =>
          xcall (fX12_commandWait N t0_17 s0_17) fun q18 =>
          some (q18.1, q18.2)
        ) fun J167 =>
      if q3 = (-1) then
        J167 1 s0
      else
        J167 q3 s0
    else
    if x7 = 9 then
      xcall (fX3_dropCurtain N s0.1) fun q20 =>
      some (0, (Thls0 s0 q20.2))
    else
    some (3, s0)
set_option maxRecDepth 100000 in
set_option maxHeartbeats 4000000 in
theorem kX12_carryOut (l : Launch) (D : va_G) (cA : Nat → ClassId) (ad : Nat → Nat) (hr : Nat → Nat → Nat) (h0 : Nat → Nat) (sz N : Nat) (a1 : Int32) (s0 : ThlS) (q : Nat × ThlS) (h : fX12_carryOut N a1 s0 = some q) : zM l yX12_carryOut cX12_carryOut 5 (some (.object "TheatreLedger$Fault")) ({ frames := 5, cells := 0, slots := 0, locals := 117 }) D cA ad (ThlW cA ad hr h0 s0) sz [.ref (h0 0), .int a1] (some (.ref (ad q.1))) (ThlW cA ad hr h0 q.2) := by
  generalize erm : ({ frames := 5, cells := 0, slots := 0, locals := 117 } : Room) = rm
  refine zMet (by decide) (Nat.le_of_ble_eq_true rfl) ?_
  intro p e s m below meth c hx hb hr9 hlocks hml hts hown hin hK hP A eA hD hS hA hsz hN hE ls hl
  have hl : lv_has ls 5 [(0, .ref (h0 0)), (1, .int a1)] := hl
  clear eA
  rw [fX12_carryOut] at h
  refine lv_aload_n hx hb dX12_carryOut_0 rfl (lv_at hl 0 rfl) ?_
  refine va_get (D := D) (ci := 11) (v := .ref (h0 56)) (C := RX12) (T := TX12) (N := 10) hx hb hts iX12 hown hK hP 0 rfl rfl 4 (by decide) (hts _ qfl_X12_36) (fun _ h9 => h9) rfl dX12_carryOut_1 ?_
  refine lv_iload_n hx hb dX12_carryOut_4 rfl (lv_at hl 1 rfl) ?_
  obtain ⟨q1, c1, h⟩ := x_call h
  refine xCallH (w2 := ThlW cA ad hr h0 s0) (zRunV (n := 1) (As := [.int a1]) (rest := []) ⟨hx, hb, hml, hown, hts⟩ (kX9_verbAt l D cA ad (fun k => h0 (k + 56)) _ N a1 s0.2.2.2.2.1 q1 c1) qco_X9_verbAt qml_X12_457 qin_X9_verbAt qse_X9_verbAt qini_X9 (by decide +kernel) (by rw [← erm]; rfl) hN hE hS hA hK hP hD [56, 57, 58, 59] rfl rfl (q0 := 0) rfl rfl rfl rfl rfl hl.1 rfl (lv_room (Nat.le_of_ble_eq_true rfl)) dX12_carryOut_5 ⟨Nat.zero_le _, Nat.zero_le _⟩) hP hD hS hA [56, 57, 58, 59] rfl rfl (xselH [none, none, none, none, none, none, none, none, none, none, none, none, none, none, none, none, none, none, none, none, none, none, none, none, none, none, none, none, none, none, none, none, none, none, none, none, none, none, none, none, none, none, none, none, none, none, none, none, none, none, none, none, none, none, none, none, some 0, some 1, some 2, some 3, none] rfl (by decide +kernel)) (fun H locs hP hD hS => ?_)
  refine zAstore_n (o := q1) (lv' := [(2, va_re ad q1), (0, .ref (h0 0)), (1, .int a1)]) hx hb dX12_carryOut_8 rfl hl (by decide) rfl (fun ls hl => ?_)
  refine zAload_n (o := q1) hx hb dX12_carryOut_9 rfl (lv_at hl 0 rfl) ?_
  refine zIfnonnull (o := q1) (tgt := 17) hx hb dX12_carryOut_10 (by decide) (fun e2 => ?_) (fun c2 e2 => ?_)
  · have h := x_on h e2
    refine va_gets hx hb (xE.f3 hE) hS hown (hts _ qfl_X12_428) (fun _ h9 => h9) dX12_carryOut_13 ?_
    have h := Option.some.inj h
    subst h
    exact zAret (a := ad 3) hx hb hr9 hlocks hP hK hD hS dX12_carryOut_16
  · have h := x_os h e2
    rw [e2] at hl
    have hl : lv_has ls 5 [(2, .ref (ad c2)), (0, .ref (h0 0)), (1, .int a1)] := hl
    refine lv_aload_n hx hb dX12_carryOut_17 rfl (lv_at hl 1 rfl) ?_
    refine va_get (D := D) (ci := 11) (v := .ref (h0 56)) (C := RX12) (T := TX12) (N := 10) hx hb hts iX12 hown hK hP 0 rfl rfl 4 (by decide) (hts _ qfl_X12_36) (fun _ h9 => h9) rfl dX12_carryOut_18 ?_
    refine lv_iload_n hx hb dX12_carryOut_21 rfl (lv_at hl 2 rfl) ?_
    refine lv_iconst (v := 0) hx hb dX12_carryOut_22 (by decide) ?_
    obtain ⟨q3, c3, h⟩ := x_call h
    refine xCallH (w2 := ThlW cA ad hr h0 s0) (zRunV (n := 2) (As := [.int a1, .int 0]) (rest := []) ⟨hx, hb, hml, hown, hts⟩ (kX9_valueAt l D cA ad (fun k => h0 (k + 56)) _ N a1 0 s0.2.2.2.2.1 q3 c3) qco_X9_valueAt qml_X12_461 qin_X9_valueAt qse_X9_valueAt qini_X9 (by decide +kernel) (by rw [← erm]; rfl) hN hE hS hA hK hP hD [56, 57, 58, 59] rfl rfl (q0 := 0) rfl rfl rfl rfl rfl hl.1 rfl (lv_room (Nat.le_of_ble_eq_true rfl)) dX12_carryOut_23 ⟨Nat.zero_le _, Nat.zero_le _⟩) hP hD hS hA [56, 57, 58, 59] rfl rfl (xselH [none, none, none, none, none, none, none, none, none, none, none, none, none, none, none, none, none, none, none, none, none, none, none, none, none, none, none, none, none, none, none, none, none, none, none, none, none, none, none, none, none, none, none, none, none, none, none, none, none, none, none, none, none, none, none, none, some 0, some 1, some 2, some 3, none] rfl (by decide +kernel)) (fun H locs hP hD hS => ?_)
    refine lv_istore_n (lv' := [(3, .int q3), (2, .ref (ad c2)), (0, .ref (h0 0)), (1, .int a1)]) hx hb dX12_carryOut_26 rfl hl (by decide) rfl (fun ls hl => ?_)
    refine lv_aload_n hx hb dX12_carryOut_27 rfl (lv_at hl 2 rfl) ?_
    refine va_get (D := D) (ci := 11) (v := .ref (h0 56)) (C := RX12) (T := TX12) (N := 10) hx hb hts iX12 hown hK hP 0 rfl rfl 4 (by decide) (hts _ qfl_X12_36) (fun _ h9 => h9) rfl dX12_carryOut_28 ?_
    refine lv_iload_n hx hb dX12_carryOut_31 rfl (lv_at hl 3 rfl) ?_
    refine lv_iconst (v := 1) hx hb dX12_carryOut_32 (by decide) ?_
    obtain ⟨q4, c4, h⟩ := x_call h
    refine xCallH (w2 := ThlW cA ad hr h0 s0) (zRunV (n := 2) (As := [.int a1, .int 1]) (rest := []) ⟨hx, hb, hml, hown, hts⟩ (kX9_valueAt l D cA ad (fun k => h0 (k + 56)) _ N a1 1 s0.2.2.2.2.1 q4 c4) qco_X9_valueAt qml_X12_461 qin_X9_valueAt qse_X9_valueAt qini_X9 (by decide +kernel) (by rw [← erm]; rfl) hN hE hS hA hK hP hD [56, 57, 58, 59] rfl rfl (q0 := 0) rfl rfl rfl rfl rfl hl.1 rfl (lv_room (Nat.le_of_ble_eq_true rfl)) dX12_carryOut_33 ⟨Nat.zero_le _, Nat.zero_le _⟩) hP hD hS hA [56, 57, 58, 59] rfl rfl (xselH [none, none, none, none, none, none, none, none, none, none, none, none, none, none, none, none, none, none, none, none, none, none, none, none, none, none, none, none, none, none, none, none, none, none, none, none, none, none, none, none, none, none, none, none, none, none, none, none, none, none, none, none, none, none, none, none, some 0, some 1, some 2, some 3, none] rfl (by decide +kernel)) (fun H locs hP hD hS => ?_)
    refine lv_istore (lv' := [(4, .int q4), (3, .int q3), (2, .ref (ad c2)), (0, .ref (h0 0)), (1, .int a1)]) hx hb dX12_carryOut_36 hl (by decide) rfl (fun ls hl => ?_)
    refine va_gets hx hb hE.ss hS hown (hts _ qfs_X12_464) (fun _ h9 => h9) dX12_carryOut_38 ?_
    refine lv_aload_n hx hb dX12_carryOut_41 rfl (lv_at hl 2 rfl) ?_
    obtain ⟨j5, hj5, h⟩ := x_vb h
    refine zOrd ⟨hx, hb, hml, hown, hts⟩ hN hE hK hP hD hS hA hj5 (by rw [← erm]; rfl) hl.1 (lv_room (Nat.le_of_ble_eq_true rfl)) dX12_carryOut_42 ⟨Nat.zero_le _, Nat.zero_le _⟩ (fun H locs hP hD hS => ?_)
    obtain ⟨k6, hk6, h⟩ := x_rd h
    refine zSald hx hb hE hS hk6 dX12_carryOut_45 ?_
    refine lv_topi (fun x7 ex7 => ?_)
    have h := x_let h ex7
    by_cases c8_0 : x7 = 1
    · have h := x_t h c8_0
      rw [c8_0]
      refine lv_tableIn (tgt := 96) hx hb dX12_carryOut_46 (by decide) (by decide) (off := 50) (by decide) (by decide) ?_
      refine lv_aload_n hx hb dX12_carryOut_96 rfl (lv_at hl 3 rfl) ?_
      refine lv_iload_n hx hb dX12_carryOut_97 rfl (lv_at hl 1 rfl) ?_
      refine lv_iload hx hb dX12_carryOut_98 (lv_at hl 0 rfl) ?_
      refine lv_aload_n hx hb dX12_carryOut_100 rfl (lv_at hl 3 rfl) ?_
      refine va_get (D := D) (ci := 11) (v := .ref (h0 56)) (C := RX12) (T := TX12) (N := 10) hx hb hts iX12 hown hK hP 0 rfl rfl 4 (by decide) (hts _ qfl_X12_36) (fun _ h9 => h9) rfl dX12_carryOut_101 ?_
      refine lv_iload_n hx hb dX12_carryOut_104 rfl (lv_at hl 4 rfl) ?_
      refine lv_iconst (v := 2) hx hb dX12_carryOut_105 (by decide) ?_
      obtain ⟨q9, c9, h⟩ := x_call h
      refine xCallH (w2 := ThlW cA ad hr h0 s0) (zRunV (n := 2) (As := [.int a1, .int 2]) (rest := [.int q4, .int q3, .ref (h0 0)]) ⟨hx, hb, hml, hown, hts⟩ (kX9_valueAt l D cA ad (fun k => h0 (k + 56)) _ N a1 2 s0.2.2.2.2.1 q9 c9) qco_X9_valueAt qml_X12_461 qin_X9_valueAt qse_X9_valueAt qini_X9 (by decide +kernel) (by rw [← erm]; rfl) hN hE hS hA hK hP hD [56, 57, 58, 59] rfl rfl (q0 := 0) rfl rfl rfl rfl rfl hl.1 rfl (lv_room (Nat.le_of_ble_eq_true rfl)) dX12_carryOut_106 ⟨Nat.zero_le _, Nat.zero_le _⟩) hP hD hS hA [56, 57, 58, 59] rfl rfl (xselH [none, none, none, none, none, none, none, none, none, none, none, none, none, none, none, none, none, none, none, none, none, none, none, none, none, none, none, none, none, none, none, none, none, none, none, none, none, none, none, none, none, none, none, none, none, none, none, none, none, none, none, none, none, none, none, none, some 0, some 1, some 2, some 3, none] rfl (by decide +kernel)) (fun H locs hP hD hS => ?_)
      obtain ⟨q10, c10, h⟩ := x_call h
      refine xCallH (w2 := ThlW cA ad hr h0 q10.2) (zRunV (n := 3) (As := [.int q3, .int q4, .int q9]) (rest := []) ⟨hx, hb, hml, hown, hts⟩ (kX12_commandPost l D cA ad hr h0 _ N q3 q4 q9 s0 q10 c10) qco_X12_commandPost qml_X12_475 qin_X12_commandPost qse_X12_commandPost qini_X12 (by decide +kernel) (by rw [← erm]; rfl) hN hE hS hA hK hP hD [0, 1, 2, 3, 4, 5, 6, 7, 8, 9, 10, 11, 12, 13, 14, 15, 16, 17, 18, 19, 20, 21, 22, 23, 24, 25, 26, 27, 28, 29, 30, 31, 32, 33, 34, 35, 36, 37, 38, 39, 40, 41, 42, 43, 44, 45, 46, 47, 48, 49, 50, 51, 52, 53, 54, 55, 56, 57, 58, 59, 60] rfl rfl (q0 := 0) rfl rfl rfl rfl rfl hl.1 rfl (lv_room (Nat.le_of_ble_eq_true rfl)) dX12_carryOut_109 ⟨Nat.zero_le _, Nat.zero_le _⟩) hP hD hS hA [0, 1, 2, 3, 4, 5, 6, 7, 8, 9, 10, 11, 12, 13, 14, 15, 16, 17, 18, 19, 20, 21, 22, 23, 24, 25, 26, 27, 28, 29, 30, 31, 32, 33, 34, 35, 36, 37, 38, 39, 40, 41, 42, 43, 44, 45, 46, 47, 48, 49, 50, 51, 52, 53, 54, 55, 56, 57, 58, 59, 60] rfl rfl (xselH [some 0, some 1, some 2, some 3, some 4, some 5, some 6, some 7, some 8, some 9, some 10, some 11, some 12, some 13, some 14, some 15, some 16, some 17, some 18, some 19, some 20, some 21, some 22, some 23, some 24, some 25, some 26, some 27, some 28, some 29, some 30, some 31, some 32, some 33, some 34, some 35, some 36, some 37, some 38, some 39, some 40, some 41, some 42, some 43, some 44, some 45, some 46, some 47, some 48, some 49, some 50, some 51, some 52, some 53, some 54, some 55, some 56, some 57, some 58, some 59, some 60] rfl (by decide +kernel)) (fun H locs hP hD hS => ?_)
      have h := Option.some.inj h
      subst h
      exact zAret (a := ad q10.1) hx hb hr9 hlocks hP hK hD hS dX12_carryOut_112
    have h := x_f h c8_0
    by_cases c8_1 : x7 = 2
    · have h := x_t h c8_1
      rw [c8_1]
      refine lv_tableIn (tgt := 113) hx hb dX12_carryOut_46 (by decide) (by decide) (off := 67) (by decide) (by decide) ?_
      refine lv_aload_n hx hb dX12_carryOut_113 rfl (lv_at hl 3 rfl) ?_
      refine lv_iload_n hx hb dX12_carryOut_114 rfl (lv_at hl 1 rfl) ?_
      obtain ⟨q11, c11, h⟩ := x_call h
      refine xCallH (w2 := ThlW cA ad hr h0 q11.2) (zRunV (n := 1) (As := [.int q3]) (rest := []) ⟨hx, hb, hml, hown, hts⟩ (kX12_commandBack l D cA ad hr h0 _ N q3 s0 q11 c11) qco_X12_commandBack qml_X12_478 qin_X12_commandBack qse_X12_commandBack qini_X12 (by decide +kernel) (by rw [← erm]; rfl) hN hE hS hA hK hP hD [0, 1, 2, 3, 4, 5, 6, 7, 8, 9, 10, 11, 12, 13, 14, 15, 16, 17, 18, 19, 20, 21, 22, 23, 24, 25, 26, 27, 28, 29, 30, 31, 32, 33, 34, 35, 36, 37, 38, 39, 40, 41, 42, 43, 44, 45, 46, 47, 48, 49, 50, 51, 52, 53, 54, 55, 56, 57, 58, 59, 60] rfl rfl (q0 := 0) rfl rfl rfl rfl rfl hl.1 rfl (lv_room (Nat.le_of_ble_eq_true rfl)) dX12_carryOut_115 ⟨Nat.zero_le _, Nat.zero_le _⟩) hP hD hS hA [0, 1, 2, 3, 4, 5, 6, 7, 8, 9, 10, 11, 12, 13, 14, 15, 16, 17, 18, 19, 20, 21, 22, 23, 24, 25, 26, 27, 28, 29, 30, 31, 32, 33, 34, 35, 36, 37, 38, 39, 40, 41, 42, 43, 44, 45, 46, 47, 48, 49, 50, 51, 52, 53, 54, 55, 56, 57, 58, 59, 60] rfl rfl (xselH [some 0, some 1, some 2, some 3, some 4, some 5, some 6, some 7, some 8, some 9, some 10, some 11, some 12, some 13, some 14, some 15, some 16, some 17, some 18, some 19, some 20, some 21, some 22, some 23, some 24, some 25, some 26, some 27, some 28, some 29, some 30, some 31, some 32, some 33, some 34, some 35, some 36, some 37, some 38, some 39, some 40, some 41, some 42, some 43, some 44, some 45, some 46, some 47, some 48, some 49, some 50, some 51, some 52, some 53, some 54, some 55, some 56, some 57, some 58, some 59, some 60] rfl (by decide +kernel)) (fun H locs hP hD hS => ?_)
      have h := Option.some.inj h
      subst h
      exact zAret (a := ad q11.1) hx hb hr9 hlocks hP hK hD hS dX12_carryOut_118
    have h := x_f h c8_1
    by_cases c8_2 : x7 = 3
    · have h := x_t h c8_2
      rw [c8_2]
      refine lv_tableIn (tgt := 119) hx hb dX12_carryOut_46 (by decide) (by decide) (off := 73) (by decide) (by decide) ?_
      refine lv_aload_n hx hb dX12_carryOut_119 rfl (lv_at hl 3 rfl) ?_
      refine lv_iload_n hx hb dX12_carryOut_120 rfl (lv_at hl 1 rfl) ?_
      refine lv_i2c hx hb dX12_carryOut_121 rfl ?_
      refine lv_iload hx hb dX12_carryOut_122 (lv_at hl 0 rfl) ?_
      obtain ⟨q12, c12, h⟩ := x_call h
      refine xCallH (w2 := ThlW cA ad hr h0 q12.2) (zRunV (n := 2) (As := [.int (((Int32.toUInt32 q3) % 65536).toInt32), .int q4]) (rest := []) ⟨hx, hb, hml, hown, hts⟩ (kX12_commandOpen l D cA ad hr h0 _ N (((Int32.toUInt32 q3) % 65536).toInt32) q4 s0 q12 c12) qco_X12_commandOpen qml_X12_481 qin_X12_commandOpen qse_X12_commandOpen qini_X12 (by decide +kernel) (by rw [← erm]; rfl) hN hE hS hA hK hP hD [0, 1, 2, 3, 4, 5, 6, 7, 8, 9, 10, 11, 12, 13, 14, 15, 16, 17, 18, 19, 20, 21, 22, 23, 24, 25, 26, 27, 28, 29, 30, 31, 32, 33, 34, 35, 36, 37, 38, 39, 40, 41, 42, 43, 44, 45, 46, 47, 48, 49, 50, 51, 52, 53, 54, 55, 56, 57, 58, 59, 60] rfl rfl (q0 := 0) rfl rfl rfl rfl rfl hl.1 rfl (lv_room (Nat.le_of_ble_eq_true rfl)) dX12_carryOut_124 ⟨Nat.zero_le _, Nat.zero_le _⟩) hP hD hS hA [0, 1, 2, 3, 4, 5, 6, 7, 8, 9, 10, 11, 12, 13, 14, 15, 16, 17, 18, 19, 20, 21, 22, 23, 24, 25, 26, 27, 28, 29, 30, 31, 32, 33, 34, 35, 36, 37, 38, 39, 40, 41, 42, 43, 44, 45, 46, 47, 48, 49, 50, 51, 52, 53, 54, 55, 56, 57, 58, 59, 60] rfl rfl (xselH [some 0, some 1, some 2, some 3, some 4, some 5, some 6, some 7, some 8, some 9, some 10, some 11, some 12, some 13, some 14, some 15, some 16, some 17, some 18, some 19, some 20, some 21, some 22, some 23, some 24, some 25, some 26, some 27, some 28, some 29, some 30, some 31, some 32, some 33, some 34, some 35, some 36, some 37, some 38, some 39, some 40, some 41, some 42, some 43, some 44, some 45, some 46, some 47, some 48, some 49, some 50, some 51, some 52, some 53, some 54, some 55, some 56, some 57, some 58, some 59, some 60] rfl (by decide +kernel)) (fun H locs hP hD hS => ?_)
      have h := Option.some.inj h
      subst h
      exact zAret (a := ad q12.1) hx hb hr9 hlocks hP hK hD hS dX12_carryOut_127
    have h := x_f h c8_2
    by_cases c8_3 : x7 = 4
    · have h := x_t h c8_3
      rw [c8_3]
      refine lv_tableIn (tgt := 128) hx hb dX12_carryOut_46 (by decide) (by decide) (off := 82) (by decide) (by decide) ?_
      refine lv_aload_n hx hb dX12_carryOut_128 rfl (lv_at hl 3 rfl) ?_
      refine lv_iload_n hx hb dX12_carryOut_129 rfl (lv_at hl 1 rfl) ?_
      refine lv_iload hx hb dX12_carryOut_130 (lv_at hl 0 rfl) ?_
      obtain ⟨q13, c13, h⟩ := x_call h
      refine xCallH (w2 := ThlW cA ad hr h0 q13.2) (zRunV (n := 2) (As := [.int q3, .int q4]) (rest := []) ⟨hx, hb, hml, hown, hts⟩ (kX12_commandBuy l D cA ad hr h0 _ N q3 q4 s0 q13 c13) qco_X12_commandBuy qml_X12_485 qin_X12_commandBuy qse_X12_commandBuy qini_X12 (by decide +kernel) (by rw [← erm]; rfl) hN hE hS hA hK hP hD [0, 1, 2, 3, 4, 5, 6, 7, 8, 9, 10, 11, 12, 13, 14, 15, 16, 17, 18, 19, 20, 21, 22, 23, 24, 25, 26, 27, 28, 29, 30, 31, 32, 33, 34, 35, 36, 37, 38, 39, 40, 41, 42, 43, 44, 45, 46, 47, 48, 49, 50, 51, 52, 53, 54, 55, 56, 57, 58, 59, 60] rfl rfl (q0 := 0) rfl rfl rfl rfl rfl hl.1 rfl (lv_room (Nat.le_of_ble_eq_true rfl)) dX12_carryOut_132 ⟨Nat.zero_le _, Nat.zero_le _⟩) hP hD hS hA [0, 1, 2, 3, 4, 5, 6, 7, 8, 9, 10, 11, 12, 13, 14, 15, 16, 17, 18, 19, 20, 21, 22, 23, 24, 25, 26, 27, 28, 29, 30, 31, 32, 33, 34, 35, 36, 37, 38, 39, 40, 41, 42, 43, 44, 45, 46, 47, 48, 49, 50, 51, 52, 53, 54, 55, 56, 57, 58, 59, 60] rfl rfl (xselH [some 0, some 1, some 2, some 3, some 4, some 5, some 6, some 7, some 8, some 9, some 10, some 11, some 12, some 13, some 14, some 15, some 16, some 17, some 18, some 19, some 20, some 21, some 22, some 23, some 24, some 25, some 26, some 27, some 28, some 29, some 30, some 31, some 32, some 33, some 34, some 35, some 36, some 37, some 38, some 39, some 40, some 41, some 42, some 43, some 44, some 45, some 46, some 47, some 48, some 49, some 50, some 51, some 52, some 53, some 54, some 55, some 56, some 57, some 58, some 59, some 60] rfl (by decide +kernel)) (fun H locs hP hD hS => ?_)
      have h := Option.some.inj h
      subst h
      exact zAret (a := ad q13.1) hx hb hr9 hlocks hP hK hD hS dX12_carryOut_135
    have h := x_f h c8_3
    by_cases c8_4 : x7 = 5
    · have h := x_t h c8_4
      rw [c8_4]
      refine lv_tableIn (tgt := 136) hx hb dX12_carryOut_46 (by decide) (by decide) (off := 90) (by decide) (by decide) ?_
      refine lv_aload_n hx hb dX12_carryOut_136 rfl (lv_at hl 3 rfl) ?_
      refine lv_iload_n hx hb dX12_carryOut_137 rfl (lv_at hl 1 rfl) ?_
      refine lv_iload hx hb dX12_carryOut_138 (lv_at hl 0 rfl) ?_
      obtain ⟨q14, c14, h⟩ := x_call h
      refine xCallH (w2 := ThlW cA ad hr h0 q14.2) (zRunV (n := 2) (As := [.int q3, .int q4]) (rest := []) ⟨hx, hb, hml, hown, hts⟩ (kX12_commandSell l D cA ad hr h0 _ N q3 q4 s0 q14 c14) qco_X12_commandSell qml_X12_488 qin_X12_commandSell qse_X12_commandSell qini_X12 (by decide +kernel) (by rw [← erm]; rfl) hN hE hS hA hK hP hD [0, 1, 2, 3, 4, 5, 6, 7, 8, 9, 10, 11, 12, 13, 14, 15, 16, 17, 18, 19, 20, 21, 22, 23, 24, 25, 26, 27, 28, 29, 30, 31, 32, 33, 34, 35, 36, 37, 38, 39, 40, 41, 42, 43, 44, 45, 46, 47, 48, 49, 50, 51, 52, 53, 54, 55, 56, 57, 58, 59, 60] rfl rfl (q0 := 0) rfl rfl rfl rfl rfl hl.1 rfl (lv_room (Nat.le_of_ble_eq_true rfl)) dX12_carryOut_140 ⟨Nat.zero_le _, Nat.zero_le _⟩) hP hD hS hA [0, 1, 2, 3, 4, 5, 6, 7, 8, 9, 10, 11, 12, 13, 14, 15, 16, 17, 18, 19, 20, 21, 22, 23, 24, 25, 26, 27, 28, 29, 30, 31, 32, 33, 34, 35, 36, 37, 38, 39, 40, 41, 42, 43, 44, 45, 46, 47, 48, 49, 50, 51, 52, 53, 54, 55, 56, 57, 58, 59, 60] rfl rfl (xselH [some 0, some 1, some 2, some 3, some 4, some 5, some 6, some 7, some 8, some 9, some 10, some 11, some 12, some 13, some 14, some 15, some 16, some 17, some 18, some 19, some 20, some 21, some 22, some 23, some 24, some 25, some 26, some 27, some 28, some 29, some 30, some 31, some 32, some 33, some 34, some 35, some 36, some 37, some 38, some 39, some 40, some 41, some 42, some 43, some 44, some 45, some 46, some 47, some 48, some 49, some 50, some 51, some 52, some 53, some 54, some 55, some 56, some 57, some 58, some 59, some 60] rfl (by decide +kernel)) (fun H locs hP hD hS => ?_)
      have h := Option.some.inj h
      subst h
      exact zAret (a := ad q14.1) hx hb hr9 hlocks hP hK hD hS dX12_carryOut_143
    have h := x_f h c8_4
    by_cases c8_5 : x7 = 6
    · have h := x_t h c8_5
      rw [c8_5]
      refine lv_tableIn (tgt := 144) hx hb dX12_carryOut_46 (by decide) (by decide) (off := 98) (by decide) (by decide) ?_
      refine lv_aload_n hx hb dX12_carryOut_144 rfl (lv_at hl 3 rfl) ?_
      refine lv_iload_n hx hb dX12_carryOut_145 rfl (lv_at hl 1 rfl) ?_
      obtain ⟨q15, c15, h⟩ := x_call h
      refine xCallH (w2 := ThlW cA ad hr h0 q15.2) (zRunV (n := 1) (As := [.int q3]) (rest := []) ⟨hx, hb, hml, hown, hts⟩ (kX12_commandBill l D cA ad hr h0 _ N q3 s0 q15 c15) qco_X12_commandBill qml_X12_491 qin_X12_commandBill qse_X12_commandBill qini_X12 (by decide +kernel) (by rw [← erm]; rfl) hN hE hS hA hK hP hD [0, 1, 2, 3, 4, 5, 6, 7, 8, 9, 10, 11, 12, 13, 14, 15, 16, 17, 18, 19, 20, 21, 22, 23, 24, 25, 26, 27, 28, 29, 30, 31, 32, 33, 34, 35, 36, 37, 38, 39, 40, 41, 42, 43, 44, 45, 46, 47, 48, 49, 50, 51, 52, 53, 54, 55, 56, 57, 58, 59, 60] rfl rfl (q0 := 0) rfl rfl rfl rfl rfl hl.1 rfl (lv_room (Nat.le_of_ble_eq_true rfl)) dX12_carryOut_146 ⟨Nat.zero_le _, Nat.zero_le _⟩) hP hD hS hA [0, 1, 2, 3, 4, 5, 6, 7, 8, 9, 10, 11, 12, 13, 14, 15, 16, 17, 18, 19, 20, 21, 22, 23, 24, 25, 26, 27, 28, 29, 30, 31, 32, 33, 34, 35, 36, 37, 38, 39, 40, 41, 42, 43, 44, 45, 46, 47, 48, 49, 50, 51, 52, 53, 54, 55, 56, 57, 58, 59, 60] rfl rfl (xselH [some 0, some 1, some 2, some 3, some 4, some 5, some 6, some 7, some 8, some 9, some 10, some 11, some 12, some 13, some 14, some 15, some 16, some 17, some 18, some 19, some 20, some 21, some 22, some 23, some 24, some 25, some 26, some 27, some 28, some 29, some 30, some 31, some 32, some 33, some 34, some 35, some 36, some 37, some 38, some 39, some 40, some 41, some 42, some 43, some 44, some 45, some 46, some 47, some 48, some 49, some 50, some 51, some 52, some 53, some 54, some 55, some 56, some 57, some 58, some 59, some 60] rfl (by decide +kernel)) (fun H locs hP hD hS => ?_)
      have h := Option.some.inj h
      subst h
      exact zAret (a := ad q15.1) hx hb hr9 hlocks hP hK hD hS dX12_carryOut_149
    have h := x_f h c8_5
    by_cases c8_6 : x7 = 7
    · have h := x_t h c8_6
      rw [c8_6]
      refine lv_tableIn (tgt := 150) hx hb dX12_carryOut_46 (by decide) (by decide) (off := 104) (by decide) (by decide) ?_
      refine lv_aload_n hx hb dX12_carryOut_150 rfl (lv_at hl 3 rfl) ?_
      refine lv_iload_n hx hb dX12_carryOut_151 rfl (lv_at hl 1 rfl) ?_
      obtain ⟨q16, c16, h⟩ := x_call h
      refine xCallH (w2 := ThlW cA ad hr h0 q16.2) (zRunV (n := 1) (As := [.int q3]) (rest := []) ⟨hx, hb, hml, hown, hts⟩ (kX12_commandPay l D cA ad hr h0 _ N q3 s0 q16 c16) qco_X12_commandPay qml_X12_494 qin_X12_commandPay qse_X12_commandPay qini_X12 (by decide +kernel) (by rw [← erm]; rfl) hN hE hS hA hK hP hD [0, 1, 2, 3, 4, 5, 6, 7, 8, 9, 10, 11, 12, 13, 14, 15, 16, 17, 18, 19, 20, 21, 22, 23, 24, 25, 26, 27, 28, 29, 30, 31, 32, 33, 34, 35, 36, 37, 38, 39, 40, 41, 42, 43, 44, 45, 46, 47, 48, 49, 50, 51, 52, 53, 54, 55, 56, 57, 58, 59, 60] rfl rfl (q0 := 0) rfl rfl rfl rfl rfl hl.1 rfl (lv_room (Nat.le_of_ble_eq_true rfl)) dX12_carryOut_152 ⟨Nat.zero_le _, Nat.zero_le _⟩) hP hD hS hA [0, 1, 2, 3, 4, 5, 6, 7, 8, 9, 10, 11, 12, 13, 14, 15, 16, 17, 18, 19, 20, 21, 22, 23, 24, 25, 26, 27, 28, 29, 30, 31, 32, 33, 34, 35, 36, 37, 38, 39, 40, 41, 42, 43, 44, 45, 46, 47, 48, 49, 50, 51, 52, 53, 54, 55, 56, 57, 58, 59, 60] rfl rfl (xselH [some 0, some 1, some 2, some 3, some 4, some 5, some 6, some 7, some 8, some 9, some 10, some 11, some 12, some 13, some 14, some 15, some 16, some 17, some 18, some 19, some 20, some 21, some 22, some 23, some 24, some 25, some 26, some 27, some 28, some 29, some 30, some 31, some 32, some 33, some 34, some 35, some 36, some 37, some 38, some 39, some 40, some 41, some 42, some 43, some 44, some 45, some 46, some 47, some 48, some 49, some 50, some 51, some 52, some 53, some 54, some 55, some 56, some 57, some 58, some 59, some 60] rfl (by decide +kernel)) (fun H locs hP hD hS => ?_)
      have h := Option.some.inj h
      subst h
      exact zAret (a := ad q16.1) hx hb hr9 hlocks hP hK hD hS dX12_carryOut_155
    have h := x_f h c8_6
    by_cases c8_7 : x7 = 8
    · have h := x_t h c8_7
      rw [c8_7]
      refine lv_tableIn (tgt := 156) hx hb dX12_carryOut_46 (by decide) (by decide) (off := 110) (by decide) (by decide) ?_
      refine lv_aload_n hx hb dX12_carryOut_156 rfl (lv_at hl 3 rfl) ?_
      refine lv_iload_n hx hb dX12_carryOut_157 rfl (lv_at hl 1 rfl) ?_
      refine lv_iconst (v := (-1)) hx hb dX12_carryOut_158 (by decide) ?_
      obtain ⟨J167, eJ167, h⟩ := x_join h
      have hJ_J167 : ∀ (t0_17 : Int32) (s0_17 : ThlS) (H : Heap) (locs : List Loc), va_P D vwCl (ThlW cA ad hr h0 s0_17) H → va_D A (ThlW cA ad hr h0 s0_17) → va_S A s.heap H locs → ∀ ls : Array Slot, lv_has ls 5 [] → J167 t0_17 s0_17 = some q → W p l e rm s m ([.ref (h0 0), .int a1] : List Value).toArray below meth c H locs 0 0 (MQ below (xQ D cA A (ThlW cA ad hr h0 q.2) (some (.ref (ad q.1)))) ([.ref (h0 0), .int a1] : List Value).toArray s 0 0 A) (F0 m 167 ls [.int t0_17, .ref (h0 0)]) := by
        clear h hP hD hS hl
        intro t0_17 s0_17 H locs hP hD hS ls hl h
        rw [eJ167] at h
        obtain ⟨q18, c18, h⟩ := x_call h
        refine xCallH (w2 := ThlW cA ad hr h0 q18.2) (zRunV (n := 1) (As := [.int t0_17]) (rest := []) ⟨hx, hb, hml, hown, hts⟩ (kX12_commandWait l D cA ad hr h0 _ N t0_17 s0_17 q18 c18) qco_X12_commandWait qml_X12_497 qin_X12_commandWait qse_X12_commandWait qini_X12 (by decide +kernel) (by rw [← erm]; rfl) hN hE hS hA hK hP hD [0, 1, 2, 3, 4, 5, 6, 7, 8, 9, 10, 11, 12, 13, 14, 15, 16, 17, 18, 19, 20, 21, 22, 23, 24, 25, 26, 27, 28, 29, 30, 31, 32, 33, 34, 35, 36, 37, 38, 39, 40, 41, 42, 43, 44, 45, 46, 47, 48, 49, 50, 51, 52, 53, 54, 55, 56, 57, 58, 59, 60] rfl rfl (q0 := 0) rfl rfl rfl rfl rfl hl.1 rfl (lv_room (Nat.le_of_ble_eq_true rfl)) dX12_carryOut_167 ⟨Nat.zero_le _, Nat.zero_le _⟩) hP hD hS hA [0, 1, 2, 3, 4, 5, 6, 7, 8, 9, 10, 11, 12, 13, 14, 15, 16, 17, 18, 19, 20, 21, 22, 23, 24, 25, 26, 27, 28, 29, 30, 31, 32, 33, 34, 35, 36, 37, 38, 39, 40, 41, 42, 43, 44, 45, 46, 47, 48, 49, 50, 51, 52, 53, 54, 55, 56, 57, 58, 59, 60] rfl rfl (xselH [some 0, some 1, some 2, some 3, some 4, some 5, some 6, some 7, some 8, some 9, some 10, some 11, some 12, some 13, some 14, some 15, some 16, some 17, some 18, some 19, some 20, some 21, some 22, some 23, some 24, some 25, some 26, some 27, some 28, some 29, some 30, some 31, some 32, some 33, some 34, some 35, some 36, some 37, some 38, some 39, some 40, some 41, some 42, some 43, some 44, some 45, some 46, some 47, some 48, some 49, some 50, some 51, some 52, some 53, some 54, some 55, some 56, some 57, some 58, some 59, some 60] rfl (by decide +kernel)) (fun H locs hP hD hS => ?_)
        have h := Option.some.inj h
        subst h
        exact zAret (a := ad q18.1) hx hb hr9 hlocks hP hK hD hS dX12_carryOut_170
      refine lv_icmp_ne (tgt := 166) hx hb dX12_carryOut_159 (by decide) (fun c19 => ?_) (fun c19 => ?_)
      · have h := x_f h c19
        refine lv_iload_n hx hb dX12_carryOut_166 rfl (lv_at hl 1 rfl) ?_
        exact hJ_J167 q3 s0 _ _ hP hD hS _ (lv_sub hl [] rfl) h
      · have h := x_t h c19
        refine lv_iconst (v := 1) hx hb dX12_carryOut_162 (by decide) ?_
        refine lv_goto (tgt := 167) hx hb dX12_carryOut_163 (by decide) ?_
        exact hJ_J167 1 s0 _ _ hP hD hS _ (lv_sub hl [] rfl) h
    have h := x_f h c8_7
    by_cases c8_8 : x7 = 9
    · have h := x_t h c8_8
      rw [c8_8]
      refine lv_tableIn (tgt := 171) hx hb dX12_carryOut_46 (by decide) (by decide) (off := 125) (by decide) (by decide) ?_
      refine lv_aload_n hx hb dX12_carryOut_171 rfl (lv_at hl 3 rfl) ?_
      refine va_get (D := D) (ci := 11) (v := .ref (h0 1)) (C := RX12) (T := TX12) (N := 10) hx hb hts iX12 hown hK hP 0 rfl rfl 0 (by decide) (hts _ qfl_X12_10) (fun _ h9 => h9) rfl dX12_carryOut_172 ?_
      obtain ⟨q20, c20, h⟩ := x_call h
      refine xCallH (w2 := ThlW cA ad hr h0 ((Thls0 s0 q20.2))) (zRunV (n := 0) (As := []) (rest := []) ⟨hx, hb, hml, hown, hts⟩ (kX3_dropCurtain l D cA ad (fun k => h0 (k + 1)) _ N s0.1 q20 c20) qco_X3_dropCurtain qml_X12_166 qin_X3_dropCurtain qse_X3_dropCurtain qini_X3 (by decide +kernel) (by rw [← erm]; rfl) hN hE hS hA hK hP hD [1, 2, 3, 4, 5, 6, 7, 8, 9, 10, 11, 12, 13, 14, 15, 16, 17, 18, 19, 20, 21, 22, 23, 24, 25] rfl rfl (q0 := 0) rfl rfl rfl rfl rfl hl.1 rfl (lv_room (Nat.le_of_ble_eq_true rfl)) dX12_carryOut_175 ⟨Nat.zero_le _, Nat.zero_le _⟩) hP hD hS hA [1, 2, 3, 4, 5, 6, 7, 8, 9, 10, 11, 12, 13, 14, 15, 16, 17, 18, 19, 20, 21, 22, 23, 24, 25] rfl rfl (xselH [none, some 0, some 1, some 2, some 3, some 4, some 5, some 6, some 7, some 8, some 9, some 10, some 11, some 12, some 13, some 14, some 15, some 16, some 17, some 18, some 19, some 20, some 21, some 22, some 23, some 24, none, none, none, none, none, none, none, none, none, none, none, none, none, none, none, none, none, none, none, none, none, none, none, none, none, none, none, none, none, none, none, none, none, none, none] rfl (by decide +kernel)) (fun H locs hP hD hS => ?_)
      refine lv_pop2_2 hx hb dX12_carryOut_178 rfl ?_
      refine va_gets hx hb (xE.f0 hE) hS hown (hts _ qfl_X12_363) (fun _ h9 => h9) dX12_carryOut_179 ?_
      have h := Option.some.inj h
      subst h
      exact zAret (a := ad 0) hx hb hr9 hlocks hP hK hD hS dX12_carryOut_182
    have h := x_f h c8_8
    refine xTbl (tgt := 183) hx hb dX12_carryOut_46 [1, 2, 3, 4, 5, 6, 7, 8, 9] (by simp only [List.forall_mem_cons]; exact ⟨c8_0, c8_1, c8_2, c8_3, c8_4, c8_5, c8_6, c8_7, c8_8, fun _ h9 => absurd h9 List.not_mem_nil⟩) (by decide +kernel) (by decide) ?_
    refine va_gets hx hb (xE.f3 hE) hS hown (hts _ qfl_X12_428) (fun _ h9 => h9) dX12_carryOut_183 ?_
    have h := Option.some.inj h
    subst h
    exact zAret (a := ad 3) hx hb hr9 hlocks hP hK hD hS dX12_carryOut_186
def fX12_putSign (N : Nat) (a1 : Int32) (s0 : ThlS) : Option (ThlS) :=
  xjoin (fun (s0_1 : ThlS) =>
      some s0_1
    ) fun J29 =>
  if 37 ≤ s0.2.2.2.2.2.2.1 then
    J29 s0
  else
    xrd 37 s0.2.2.2.2.2.2.1 fun k3 =>
    xlet (upd s0.2.2.2.2.2.1 k3 (vp_nar .char a1)) fun g4 =>
    xlet (s0.2.2.2.2.2.2.1 + 1) fun x5 =>
    J29 ((Thls6 (Thls5 s0 g4) x5))
set_option maxRecDepth 100000 in
set_option maxHeartbeats 4000000 in
theorem kX12_putSign (l : Launch) (D : va_G) (cA : Nat → ClassId) (ad : Nat → Nat) (hr : Nat → Nat → Nat) (h0 : Nat → Nat) (sz N : Nat) (a1 : Int32) (s0 : ThlS) (q : ThlS) (h : fX12_putSign N a1 s0 = some q) : zM l yX12_putSign cX12_putSign 2 none ({ frames := 0, cells := 0, slots := 0, locals := 0 }) D cA ad (ThlW cA ad hr h0 s0) sz [.ref (h0 0), .int a1] (none) (ThlW cA ad hr h0 q) := by
  generalize erm : ({ frames := 0, cells := 0, slots := 0, locals := 0 } : Room) = rm
  refine zMet (by decide) (Nat.le_of_ble_eq_true rfl) ?_
  intro p e s m below meth c hx hb hr9 hlocks hml hts hown hin hK hP A eA hD hS hA hsz hN hE ls hl
  have hl : lv_has ls 2 [(0, .ref (h0 0)), (1, .int a1)] := hl
  clear eA
  rw [fX12_putSign] at h
  refine lv_aload_n hx hb dX12_putSign_0 rfl (lv_at hl 0 rfl) ?_
  refine va_get (D := D) (ci := 11) (v := .int s0.2.2.2.2.2.2.1) (C := RX12) (T := TX12) (N := 10) hx hb hts iX12 hown hK hP 0 rfl rfl 6 (by decide) (hts _ qfl_X12_384) (fun _ h9 => h9) rfl dX12_putSign_1 ?_
  refine lv_bipush (v := 37) hx hb dX12_putSign_4 (by decide) ?_
  obtain ⟨J29, eJ29, h⟩ := x_join h
  have hJ_J29 : ∀ (s0_1 : ThlS) (H : Heap) (locs : List Loc), va_P D vwCl (ThlW cA ad hr h0 s0_1) H → va_D A (ThlW cA ad hr h0 s0_1) → va_S A s.heap H locs → ∀ ls : Array Slot, lv_has ls 2 [] → J29 s0_1 = some q → W p l e rm s m ([.ref (h0 0), .int a1] : List Value).toArray below meth c H locs 0 0 (MQ below (xQ D cA A (ThlW cA ad hr h0 q) (none)) ([.ref (h0 0), .int a1] : List Value).toArray s 0 0 A) (F0 m 29 ls []) := by
    clear h hP hD hS hl
    intro s0_1 H locs hP hD hS ls hl h
    rw [eJ29] at h
    have h := Option.some.inj h
    subst h
    exact xVret hx hb hr9 hlocks hP hK hD hS dX12_putSign_29
  refine lv_icmp_ge (tgt := 29) hx hb dX12_putSign_6 (by decide) (fun c2 => ?_) (fun c2 => ?_)
  · have h := x_t h c2
    exact hJ_J29 s0 _ _ hP hD hS _ (lv_sub hl [] rfl) h
  · have h := x_f h c2
    refine lv_aload_n hx hb dX12_putSign_9 rfl (lv_at hl 0 rfl) ?_
    refine va_get (D := D) (ci := 11) (v := .ref (h0 60)) (C := RX12) (T := TX12) (N := 10) hx hb hts iX12 hown hK hP 0 rfl rfl 5 (by decide) (hts _ qfl_X12_40) (fun _ h9 => h9) rfl dX12_putSign_10 ?_
    refine lv_aload_n hx hb dX12_putSign_13 rfl (lv_at hl 0 rfl) ?_
    refine va_get (D := D) (ci := 11) (v := .int s0.2.2.2.2.2.2.1) (C := RX12) (T := TX12) (N := 10) hx hb hts iX12 hown hK hP 0 rfl rfl 6 (by decide) (hts _ qfl_X12_384) (fun _ h9 => h9) rfl dX12_putSign_14 ?_
    refine lv_iload_n hx hb dX12_putSign_17 rfl (lv_at hl 1 rfl) ?_
    obtain ⟨k3, hk3, h⟩ := x_rd h
    refine xCast (w2 := fun zz => ThlW cA ad hr h0 ((Thls5 s0 zz))) hx hb hK hP hD hS 60 1 rfl rfl hk3 (fun _ => rfl) dX12_putSign_18 (fun g4 eg4 H locs hP hD hS => ?_)
    have h := x_let h eg4
    have hP : va_P D vwCl (ThlW cA ad hr h0 ((Thls5 s0 g4))) H := hP
    have hD : va_D A (ThlW cA ad hr h0 ((Thls5 s0 g4))) := hD
    refine lv_aload_n hx hb dX12_putSign_19 rfl (lv_at hl 0 rfl) ?_
    refine lv_dup hx hb dX12_putSign_20 rfl ?_
    refine va_get (D := D) (ci := 11) (v := .int s0.2.2.2.2.2.2.1) (C := RX12) (T := TX12) (N := 10) hx hb hts iX12 hown hK hP 0 rfl rfl 6 (by decide) (hts _ qfl_X12_384) (fun _ h9 => h9) rfl dX12_putSign_21 ?_
    refine lv_iconst (v := 1) hx hb dX12_putSign_24 (by decide) ?_
    refine lv_iadd hx hb dX12_putSign_25 ?_
    refine lv_topi (fun x5 ex5 => ?_)
    have h := x_let h ex5
    refine va_put (D := D) (ci := 11) (v := .int x5) (ty := .int) (C := RX12) (T := TX12) (N := 10) hx hb hts iX12 tyX12 tyX12_ok nmX12 hown hK hP hD hS 0 rfl rfl 6 (by decide) (hts _ qfl_X12_384) (fun _ h9 => h9) rfl (by decide +kernel) rfl rfl (Nat.le_of_ble_eq_true rfl) dX12_putSign_26 (fun H locs hP hD hS => ?_)
    have hP : va_P D vwCl (ThlW cA ad hr h0 ((Thls6 (Thls5 s0 g4) x5))) H := hP
    have hD : va_D A (ThlW cA ad hr h0 ((Thls6 (Thls5 s0 g4) x5))) := hD
    exact hJ_J29 ((Thls6 (Thls5 s0 g4) x5)) _ _ hP hD hS _ (lv_sub hl [] rfl) h
def fX12_putNumber_L7 (N : Nat) (K75 : ThlS → Option (ThlS)) : Nat → Int64 → Int32 → Int64 → ThlS → Option (ThlS)
  | 0, _, _, _, _ => none
  | n + 1, v1_2, v3_2, v4_2, s0_2 =>
    if (lg_cmp v4_2 0) ≤ 0 then
      K75 s0_2
    else
      xnz (decide (¬ v4_2 = 0)) <|
      xlet ((v1_2 / v4_2) - (v1_2 / v4_2) / 10 * 10) fun x5 =>
      xjoin (fun (t0_6 : Int32) (v1_6 : Int64) (v4_6 : Int64) (v6_6 : Int64) (s0_6 : ThlS) =>
          xjoin (fun (v1_7 : Int64) (v3_7 : Int32) (v4_7 : Int64) (s0_7 : ThlS) =>
              xlet (v4_7 / 10) fun x8 =>
              fX12_putNumber_L7 N K75 n v1_7 v3_7 x8 s0_7
            ) fun J64 =>
          if t0_6 = 0 then
            J64 v1_6 t0_6 v4_6 s0_6
          else
            xcall (fX12_putSign N (((Int32.toUInt32 (Int64.toInt32 (48 + v6_6))) % 65536).toInt32) s0_6) fun q10 =>
            J64 v1_6 t0_6 v4_6 q10
        ) fun J47 =>
      xjoin (fun (v1_11 : Int64) (v4_11 : Int64) (v6_11 : Int64) (s0_11 : ThlS) =>
          J47 1 v1_11 v4_11 v6_11 s0_11
        ) fun J42 =>
      if v3_2 = 0 then
        if (lg_cmp x5 0) = 0 then
          if (lg_cmp v4_2 1) = 0 then
            J42 v1_2 v4_2 x5 s0_2
          else
            J47 0 v1_2 v4_2 x5 s0_2
        else
          J42 v1_2 v4_2 x5 s0_2
      else
        J42 v1_2 v4_2 x5 s0_2
def fX12_putNumber (N : Nat) (a1 : Int64) (s0 : ThlS) : Option (ThlS) :=
  xjoin (fun (s0_1 : ThlS) =>
      some s0_1
    ) fun K75 =>
  fX12_putNumber_L7 N K75 N a1 0 1000000000000000000 s0
set_option maxRecDepth 100000 in
set_option maxHeartbeats 4000000 in
theorem kX12_putNumber (l : Launch) (D : va_G) (cA : Nat → ClassId) (ad : Nat → Nat) (hr : Nat → Nat → Nat) (h0 : Nat → Nat) (sz N : Nat) (a1 : Int64) (s0 : ThlS) (q : ThlS) (h : fX12_putNumber N a1 s0 = some q) : zM l yX12_putNumber cX12_putNumber 8 none ({ frames := 1, cells := 0, slots := 0, locals := 21 }) D cA ad (ThlW cA ad hr h0 s0) sz [.ref (h0 0), .long a1] (none) (ThlW cA ad hr h0 q) := by
  generalize erm : ({ frames := 1, cells := 0, slots := 0, locals := 21 } : Room) = rm
  refine zMet (by decide) (Nat.le_of_ble_eq_true rfl) ?_
  intro p e s m below meth c hx hb hr9 hlocks hml hts hown hin hK hP A eA hD hS hA hsz hN hE ls hl
  have hl : lv_has ls 8 [(0, .ref (h0 0)), (1, .long a1)] := hl
  clear eA
  rw [fX12_putNumber] at h
  refine lv_iconst (v := 0) hx hb dX12_putNumber_0 (by decide) ?_
  refine lv_istore_n (lv' := [(3, .int 0), (0, .ref (h0 0)), (1, .long a1)]) hx hb dX12_putNumber_1 rfl hl (by decide) rfl (fun ls hl => ?_)
  refine lv_ldc2 hx hb hown (hts _ qcl_X12_500) dX12_putNumber_2 ?_
  refine lv_lstore (lv' := [(4, .long 1000000000000000000), (3, .int 0), (0, .ref (h0 0)), (1, .long a1)]) hx hb dX12_putNumber_5 hl (by decide) rfl (fun ls hl => ?_)
  obtain ⟨K75, eK75, h⟩ := x_join h
  have hJ_K75 : ∀ (s0_1 : ThlS) (H : Heap) (locs : List Loc), va_P D vwCl (ThlW cA ad hr h0 s0_1) H → va_D A (ThlW cA ad hr h0 s0_1) → va_S A s.heap H locs → ∀ ls : Array Slot, lv_has ls 8 [] → K75 s0_1 = some q → W p l e rm s m ([.ref (h0 0), .long a1] : List Value).toArray below meth c H locs 0 0 (MQ below (xQ D cA A (ThlW cA ad hr h0 q) (none)) ([.ref (h0 0), .long a1] : List Value).toArray s 0 0 A) (F0 m 75 ls []) := by
    clear h hP hD hS hl
    intro s0_1 H locs hP hD hS ls hl h
    rw [eK75] at h
    have h := Option.some.inj h
    subst h
    exact xVret hx hb hr9 hlocks hP hK hD hS dX12_putNumber_75
  have hL7 : ∀ (n : Nat) (v1_2 : Int64) (v3_2 : Int32) (v4_2 : Int64) (s0_2 : ThlS) (H : Heap) (locs : List Loc), va_P D vwCl (ThlW cA ad hr h0 s0_2) H → va_D A (ThlW cA ad hr h0 s0_2) → va_S A s.heap H locs → ∀ ls : Array Slot, lv_has ls 8 [(0, .ref (h0 0)), (1, .long v1_2), (3, .int v3_2), (4, .long v4_2)] → fX12_putNumber_L7 N K75 n v1_2 v3_2 v4_2 s0_2 = some q → W p l e rm s m ([.ref (h0 0), .long a1] : List Value).toArray below meth c H locs 0 0 (MQ below (xQ D cA A (ThlW cA ad hr h0 q) (none)) ([.ref (h0 0), .long a1] : List Value).toArray s 0 0 A) (F0 m 7 ls []) := by
    clear h hP hD hS hl
    intro n
    induction n with
    | zero => intro v1_2 v3_2 v4_2 s0_2 H locs hP hD hS ls hl h; rw [fX12_putNumber_L7] at h; cases h
    | succ n ih =>
      intro v1_2 v3_2 v4_2 s0_2 H locs hP hD hS ls hl h
      rw [fX12_putNumber_L7] at h
      refine lv_lload hx hb dX12_putNumber_7 (lv_at hl 3 rfl) ?_
      refine lv_lconst (v := 0) hx hb dX12_putNumber_9 (by decide) ?_
      refine W.lcmp hx hb dX12_putNumber_10 ?_
      refine lv_if_le (tgt := 75) hx hb dX12_putNumber_11 (by decide) (fun c3 => ?_) (fun c3 => ?_)
      · have h := x_t h c3
        exact hJ_K75 s0_2 _ _ hP hD hS _ (lv_sub hl [] rfl) h
      · have h := x_f h c3
        refine lv_lload_n hx hb dX12_putNumber_14 rfl (lv_at hl 1 rfl) ?_
        refine lv_lload hx hb dX12_putNumber_15 (lv_at hl 3 rfl) ?_
        obtain ⟨z4, h⟩ := x_nz h
        refine lv_ldiv hx hb dX12_putNumber_17 (of_decide_eq_true z4) ?_
        refine lv_ldc2 hx hb hown (hts _ qcl_X12_502) dX12_putNumber_18 ?_
        refine lv_lrem hx hb dX12_putNumber_21 (by decide) ?_
        refine lv_topl (fun x5 ex5 => ?_)
        have h := x_let h ex5
        refine lv_lstore (lv' := [(6, .long x5), (0, .ref (h0 0)), (1, .long v1_2), (3, .int v3_2), (4, .long v4_2)]) hx hb dX12_putNumber_22 hl (by decide) rfl (fun ls hl => ?_)
        refine lv_iload_n hx hb dX12_putNumber_24 rfl (lv_at hl 3 rfl) ?_
        obtain ⟨J47, eJ47, h⟩ := x_join h
        have hJ_J47 : ∀ (t0_6 : Int32) (v1_6 : Int64) (v4_6 : Int64) (v6_6 : Int64) (s0_6 : ThlS) (H : Heap) (locs : List Loc), va_P D vwCl (ThlW cA ad hr h0 s0_6) H → va_D A (ThlW cA ad hr h0 s0_6) → va_S A s.heap H locs → ∀ ls : Array Slot, lv_has ls 8 [(0, .ref (h0 0)), (1, .long v1_6), (4, .long v4_6), (6, .long v6_6)] → J47 t0_6 v1_6 v4_6 v6_6 s0_6 = some q → W p l e rm s m ([.ref (h0 0), .long a1] : List Value).toArray below meth c H locs 0 0 (MQ below (xQ D cA A (ThlW cA ad hr h0 q) (none)) ([.ref (h0 0), .long a1] : List Value).toArray s 0 0 A) (F0 m 47 ls [.int t0_6]) := by
          clear h hP hD hS hl
          intro t0_6 v1_6 v4_6 v6_6 s0_6 H locs hP hD hS ls hl h
          rw [eJ47] at h
          refine lv_istore_n (lv' := [(3, .int t0_6), (0, .ref (h0 0)), (1, .long v1_6), (4, .long v4_6), (6, .long v6_6)]) hx hb dX12_putNumber_47 rfl hl (by decide) rfl (fun ls hl => ?_)
          refine lv_iload_n hx hb dX12_putNumber_48 rfl (lv_at hl 0 rfl) ?_
          obtain ⟨J64, eJ64, h⟩ := x_join h
          have hJ_J64 : ∀ (v1_7 : Int64) (v3_7 : Int32) (v4_7 : Int64) (s0_7 : ThlS) (H : Heap) (locs : List Loc), va_P D vwCl (ThlW cA ad hr h0 s0_7) H → va_D A (ThlW cA ad hr h0 s0_7) → va_S A s.heap H locs → ∀ ls : Array Slot, lv_has ls 8 [(0, .ref (h0 0)), (1, .long v1_7), (3, .int v3_7), (4, .long v4_7)] → J64 v1_7 v3_7 v4_7 s0_7 = some q → W p l e rm s m ([.ref (h0 0), .long a1] : List Value).toArray below meth c H locs 0 0 (MQ below (xQ D cA A (ThlW cA ad hr h0 q) (none)) ([.ref (h0 0), .long a1] : List Value).toArray s 0 0 A) (F0 m 64 ls []) := by
            clear h hP hD hS hl
            intro v1_7 v3_7 v4_7 s0_7 H locs hP hD hS ls hl h
            rw [eJ64] at h
            refine lv_lload hx hb dX12_putNumber_64 (lv_at hl 3 rfl) ?_
            refine lv_ldc2 hx hb hown (hts _ qcl_X12_502) dX12_putNumber_66 ?_
            refine lv_ldiv hx hb dX12_putNumber_69 (by decide) ?_
            refine lv_topl (fun x8 ex8 => ?_)
            have h := x_let h ex8
            refine lv_lstore (lv' := [(4, .long x8), (0, .ref (h0 0)), (1, .long v1_7), (3, .int v3_7)]) hx hb dX12_putNumber_70 hl (by decide) rfl (fun ls hl => ?_)
            refine lv_goto (tgt := 7) hx hb dX12_putNumber_72 (by decide) ?_
            exact ih v1_7 v3_7 x8 s0_7 _ _ hP hD hS _ (lv_sub hl [1, 2, 3, 0] rfl) h
          refine lv_if_eq (tgt := 64) hx hb dX12_putNumber_49 (by decide) (fun c9 => ?_) (fun c9 => ?_)
          · have h := x_t h c9
            exact hJ_J64 v1_6 t0_6 v4_6 s0_6 _ _ hP hD hS _ (lv_sub hl [1, 2, 0, 3] rfl) h
          · have h := x_f h c9
            refine lv_aload_n hx hb dX12_putNumber_52 rfl (lv_at hl 1 rfl) ?_
            refine lv_ldc2 hx hb hown (hts _ qcl_X12_504) dX12_putNumber_53 ?_
            refine lv_lload hx hb dX12_putNumber_56 (lv_at hl 4 rfl) ?_
            refine lv_ladd hx hb dX12_putNumber_58 ?_
            refine lv_l2i hx hb dX12_putNumber_59 rfl ?_
            refine lv_i2c hx hb dX12_putNumber_60 rfl ?_
            obtain ⟨q10, c10, h⟩ := x_call h
            refine xCallH (w2 := ThlW cA ad hr h0 q10) (zRunV (n := 1) (As := [.int (((Int32.toUInt32 (Int64.toInt32 (48 + v6_6))) % 65536).toInt32)]) (rest := []) ⟨hx, hb, hml, hown, hts⟩ (kX12_putSign l D cA ad hr h0 _ N (((Int32.toUInt32 (Int64.toInt32 (48 + v6_6))) % 65536).toInt32) s0_6 q10 c10) qco_X12_putSign qml_X12_391 qin_X12_putSign qse_X12_putSign qini_X12 (by decide +kernel) (by rw [← erm]; rfl) hN hE hS hA hK hP hD [0, 1, 2, 3, 4, 5, 6, 7, 8, 9, 10, 11, 12, 13, 14, 15, 16, 17, 18, 19, 20, 21, 22, 23, 24, 25, 26, 27, 28, 29, 30, 31, 32, 33, 34, 35, 36, 37, 38, 39, 40, 41, 42, 43, 44, 45, 46, 47, 48, 49, 50, 51, 52, 53, 54, 55, 56, 57, 58, 59, 60] rfl rfl (q0 := 0) rfl rfl rfl rfl rfl hl.1 rfl (lv_room (Nat.le_of_ble_eq_true rfl)) dX12_putNumber_61 ⟨Nat.zero_le _, Nat.zero_le _⟩) hP hD hS hA [0, 1, 2, 3, 4, 5, 6, 7, 8, 9, 10, 11, 12, 13, 14, 15, 16, 17, 18, 19, 20, 21, 22, 23, 24, 25, 26, 27, 28, 29, 30, 31, 32, 33, 34, 35, 36, 37, 38, 39, 40, 41, 42, 43, 44, 45, 46, 47, 48, 49, 50, 51, 52, 53, 54, 55, 56, 57, 58, 59, 60] rfl rfl (xselH [some 0, some 1, some 2, some 3, some 4, some 5, some 6, some 7, some 8, some 9, some 10, some 11, some 12, some 13, some 14, some 15, some 16, some 17, some 18, some 19, some 20, some 21, some 22, some 23, some 24, some 25, some 26, some 27, some 28, some 29, some 30, some 31, some 32, some 33, some 34, some 35, some 36, some 37, some 38, some 39, some 40, some 41, some 42, some 43, some 44, some 45, some 46, some 47, some 48, some 49, some 50, some 51, some 52, some 53, some 54, some 55, some 56, some 57, some 58, some 59, some 60] rfl (by decide +kernel)) (fun H locs hP hD hS => ?_)
            exact hJ_J64 v1_6 t0_6 v4_6 q10 _ _ hP hD hS _ (lv_sub hl [1, 2, 0, 3] rfl) h
        obtain ⟨J42, eJ42, h⟩ := x_join h
        have hJ_J42 : ∀ (v1_11 : Int64) (v4_11 : Int64) (v6_11 : Int64) (s0_11 : ThlS) (H : Heap) (locs : List Loc), va_P D vwCl (ThlW cA ad hr h0 s0_11) H → va_D A (ThlW cA ad hr h0 s0_11) → va_S A s.heap H locs → ∀ ls : Array Slot, lv_has ls 8 [(0, .ref (h0 0)), (1, .long v1_11), (4, .long v4_11), (6, .long v6_11)] → J42 v1_11 v4_11 v6_11 s0_11 = some q → W p l e rm s m ([.ref (h0 0), .long a1] : List Value).toArray below meth c H locs 0 0 (MQ below (xQ D cA A (ThlW cA ad hr h0 q) (none)) ([.ref (h0 0), .long a1] : List Value).toArray s 0 0 A) (F0 m 42 ls []) := by
          clear h hP hD hS hl
          intro v1_11 v4_11 v6_11 s0_11 H locs hP hD hS ls hl h
          rw [eJ42] at h
          refine lv_iconst (v := 1) hx hb dX12_putNumber_42 (by decide) ?_
          refine lv_goto (tgt := 47) hx hb dX12_putNumber_43 (by decide) ?_
          exact hJ_J47 1 v1_11 v4_11 v6_11 s0_11 _ _ hP hD hS _ (lv_sub hl [0, 1, 2, 3] rfl) h
        refine lv_if_ne (tgt := 42) hx hb dX12_putNumber_25 (by decide) (fun c12 => ?_) (fun c12 => ?_)
        · have h := x_f h c12
          exact hJ_J42 v1_2 v4_2 x5 s0_2 _ _ hP hD hS _ (lv_sub hl [1, 2, 4, 0] rfl) h
        · have h := x_t h c12
          refine lv_lload hx hb dX12_putNumber_28 (lv_at hl 0 rfl) ?_
          refine lv_lconst (v := 0) hx hb dX12_putNumber_30 (by decide) ?_
          refine W.lcmp hx hb dX12_putNumber_31 ?_
          refine lv_if_ne (tgt := 42) hx hb dX12_putNumber_32 (by decide) (fun c13 => ?_) (fun c13 => ?_)
          · have h := x_f h c13
            exact hJ_J42 v1_2 v4_2 x5 s0_2 _ _ hP hD hS _ (lv_sub hl [1, 2, 4, 0] rfl) h
          · have h := x_t h c13
            refine lv_lload hx hb dX12_putNumber_35 (lv_at hl 4 rfl) ?_
            refine lv_lconst (v := 1) hx hb dX12_putNumber_37 (by decide) ?_
            refine W.lcmp hx hb dX12_putNumber_38 ?_
            refine lv_if_ne (tgt := 46) hx hb dX12_putNumber_39 (by decide) (fun c14 => ?_) (fun c14 => ?_)
            · have h := x_f h c14
              refine lv_iconst (v := 0) hx hb dX12_putNumber_46 (by decide) ?_
              exact hJ_J47 0 v1_2 v4_2 x5 s0_2 _ _ hP hD hS _ (lv_sub hl [1, 2, 4, 0] rfl) h
            · have h := x_t h c14
              exact hJ_J42 v1_2 v4_2 x5 s0_2 _ _ hP hD hS _ (lv_sub hl [1, 2, 4, 0] rfl) h
  exact hL7 N a1 0 1000000000000000000 s0 _ _ hP hD hS _ (lv_sub hl [2, 3, 1, 0] rfl) h
def fX12_save (N : Nat)  (s0 : ThlS) : Option (Int32 × ThlS) :=
  xcall (fX3_copyFrom N s0.2.1 s0.1) fun q1 =>
  some (q1.2.1.2.2.2.2, (Thls7 (Thls1 (Thls0 s0 q1.2) q1.1) 1))
set_option maxRecDepth 100000 in
set_option maxHeartbeats 4000000 in
theorem kX12_save (l : Launch) (D : va_G) (cA : Nat → ClassId) (ad : Nat → Nat) (hr : Nat → Nat → Nat) (h0 : Nat → Nat) (sz N : Nat)  (s0 : ThlS) (q : Int32 × ThlS) (h : fX12_save N s0 = some q) : zM l yX12_save cX12_save 1 (some .int) ({ frames := 3, cells := 0, slots := 0, locals := 82 }) D cA ad (ThlW cA ad hr h0 s0) sz [.ref (h0 0)] (some (.int q.1)) (ThlW cA ad hr h0 q.2) := by
  generalize erm : ({ frames := 3, cells := 0, slots := 0, locals := 82 } : Room) = rm
  refine zMet (by decide) (Nat.le_of_ble_eq_true rfl) ?_
  intro p e s m below meth c hx hb hr9 hlocks hml hts hown hin hK hP A eA hD hS hA hsz hN hE ls hl
  have hl : lv_has ls 1 [(0, .ref (h0 0))] := hl
  clear eA
  rw [fX12_save] at h
  refine lv_aload_n hx hb dX12_save_0 rfl (lv_at hl 0 rfl) ?_
  refine va_get (D := D) (ci := 11) (v := .ref (h0 26)) (C := RX12) (T := TX12) (N := 10) hx hb hts iX12 hown hK hP 0 rfl rfl 1 (by decide) (hts _ qfl_X12_16) (fun _ h9 => h9) rfl dX12_save_1 ?_
  refine lv_aload_n hx hb dX12_save_4 rfl (lv_at hl 0 rfl) ?_
  refine va_get (D := D) (ci := 11) (v := .ref (h0 1)) (C := RX12) (T := TX12) (N := 10) hx hb hts iX12 hown hK hP 0 rfl rfl 0 (by decide) (hts _ qfl_X12_10) (fun _ h9 => h9) rfl dX12_save_5 ?_
  obtain ⟨q1, c1, h⟩ := x_call h
  refine xCallH (w2 := ThlW cA ad hr h0 ((Thls1 (Thls0 s0 q1.2) q1.1))) (zRunV (n := 1) (As := [.ref (h0 1)]) (rest := []) ⟨hx, hb, hml, hown, hts⟩ (kX3_copyFrom l D cA ad (fun k => h0 (k + 26)) (fun k => h0 (k + 1)) _ N s0.2.1 s0.1 q1 c1) qco_X3_copyFrom qml_X12_406 qin_X3_copyFrom qse_X3_copyFrom qini_X3 (by decide +kernel) (by rw [← erm]; rfl) hN hE hS hA hK hP hD [26, 27, 28, 29, 30, 31, 32, 33, 34, 35, 36, 37, 38, 39, 40, 41, 42, 43, 44, 45, 46, 47, 48, 49, 50, 1, 2, 3, 4, 5, 6, 7, 8, 9, 10, 11, 12, 13, 14, 15, 16, 17, 18, 19, 20, 21, 22, 23, 24, 25] rfl rfl (q0 := 0) rfl rfl rfl rfl rfl hl.1 rfl (lv_room (Nat.le_of_ble_eq_true rfl)) dX12_save_8 ⟨Nat.zero_le _, Nat.zero_le _⟩) hP hD hS hA [26, 27, 28, 29, 30, 31, 32, 33, 34, 35, 36, 37, 38, 39, 40, 41, 42, 43, 44, 45, 46, 47, 48, 49, 50, 1, 2, 3, 4, 5, 6, 7, 8, 9, 10, 11, 12, 13, 14, 15, 16, 17, 18, 19, 20, 21, 22, 23, 24, 25] rfl rfl (xselH [none, some 25, some 26, some 27, some 28, some 29, some 30, some 31, some 32, some 33, some 34, some 35, some 36, some 37, some 38, some 39, some 40, some 41, some 42, some 43, some 44, some 45, some 46, some 47, some 48, some 49, some 0, some 1, some 2, some 3, some 4, some 5, some 6, some 7, some 8, some 9, some 10, some 11, some 12, some 13, some 14, some 15, some 16, some 17, some 18, some 19, some 20, some 21, some 22, some 23, some 24, none, none, none, none, none, none, none, none, none, none] rfl (by decide +kernel)) (fun H locs hP hD hS => ?_)
  refine lv_aload_n hx hb dX12_save_11 rfl (lv_at hl 0 rfl) ?_
  refine lv_iconst (v := 1) hx hb dX12_save_12 (by decide) ?_
  refine va_put (D := D) (ci := 11) (v := .int 1) (ty := .boolean) (C := RX12) (T := TX12) (N := 10) hx hb hts iX12 tyX12 tyX12_ok nmX12 hown hK hP hD hS 0 rfl rfl 7 (by decide) (hts _ qfl_X12_409) (fun _ h9 => h9) rfl (by decide +kernel) (by decide) (by decide) (Nat.le_of_ble_eq_true rfl) dX12_save_13 (fun H locs hP hD hS => ?_)
  have hP : va_P D vwCl (ThlW cA ad hr h0 ((Thls7 (Thls1 (Thls0 s0 q1.2) q1.1) 1))) H := hP
  have hD : va_D A (ThlW cA ad hr h0 ((Thls7 (Thls1 (Thls0 s0 q1.2) q1.1) 1))) := hD
  refine lv_aload_n hx hb dX12_save_16 rfl (lv_at hl 0 rfl) ?_
  refine va_get (D := D) (ci := 11) (v := .ref (h0 1)) (C := RX12) (T := TX12) (N := 10) hx hb hts iX12 hown hK hP 0 rfl rfl 0 (by decide) (hts _ qfl_X12_10) (fun _ h9 => h9) rfl dX12_save_17 ?_
  refine va_getN (D := D) (ci := 4) (v := .ref (h0 2)) (C := RX3) (T := TX3) (N := 7) hx hb hts iX3 hown hK hP 1 rfl rfl 0 (by decide) (hN.use qfn_X12_51) (fun _ h9 => h9) rfl dX12_save_20 ?_
  refine va_getN (D := D) (ci := 2) (v := .int q1.2.1.2.2.2.2) (C := RX1) (T := TX1) (N := 5) hx hb hts iX1 hown hK hP 2 rfl rfl 4 (by decide) (hN.use qfn_X12_173) (fun _ h9 => h9) rfl dX12_save_23 ?_
  have h := Option.some.inj h
  subst h
  exact xIret hx hb hr9 hlocks hP hK hD hS dX12_save_26
