/-! method by method: what it computes, and that its bytes compute it -/
def fX5_free (N : Nat)  (s0 : HisS) : Option (Nat) :=
  xcall (fJ9_floorMod_7cf53 N (s0.1 + s0.2) 9) fun q1 =>
  xrd 9 q1 fun k2 =>
  some k2
set_option maxRecDepth 100000 in
set_option maxHeartbeats 4000000 in
theorem kX5_free (l : Launch) (D : va_G) (cA : Nat → ClassId) (ad : Nat → Nat) (hr : Nat → Nat → Nat) (h0 : Nat → Nat) (sz N : Nat)  (s0 : HisS) (q : Nat) (h : fX5_free N s0 = some q) : zM l yX5_free cX5_free 1 (some (.object "TheatreLedger$Books")) ({ frames := 1, cells := 0, slots := 0, locals := 22 }) D cA ad (HisW cA hr h0 s0) sz [.ref (h0 0)] (some (.ref (hr q 0))) (HisW cA hr h0 s0) := by
  generalize erm : ({ frames := 1, cells := 0, slots := 0, locals := 22 } : Room) = rm
  refine zMet (by decide) (Nat.le_of_ble_eq_true rfl) ?_
  intro p e s m below meth c hx hb hr9 hlocks hml hts hown hin hK hP A eA hD hS hA hsz hN hE ls hl
  have hl : lv_has ls 1 [(0, .ref (h0 0))] := hl
  clear eA
  rw [fX5_free] at h
  refine lv_aload_n hx hb dX5_free_0 rfl (lv_at hl 0 rfl) ?_
  refine va_get (D := D) (ci := 5) (v := .ref (h0 1)) (C := RX5) (T := TX5) (N := 3) hx hb hts iX5 hown hK hP 0 rfl rfl 0 (by decide) (hts _ qfl_X5_13) (fun _ h9 => h9) rfl dX5_free_1 ?_
  refine lv_aload_n hx hb dX5_free_4 rfl (lv_at hl 0 rfl) ?_
  refine va_get (D := D) (ci := 5) (v := .int s0.1) (C := RX5) (T := TX5) (N := 3) hx hb hts iX5 hown hK hP 0 rfl rfl 1 (by decide) (hts _ qfl_X5_18) (fun _ h9 => h9) rfl dX5_free_5 ?_
  refine lv_aload_n hx hb dX5_free_8 rfl (lv_at hl 0 rfl) ?_
  refine va_get (D := D) (ci := 5) (v := .int s0.2) (C := RX5) (T := TX5) (N := 3) hx hb hts iX5 hown hK hP 0 rfl rfl 2 (by decide) (hts _ qfl_X5_22) (fun _ h9 => h9) rfl dX5_free_9 ?_
  refine lv_iadd hx hb dX5_free_12 ?_
  refine lv_bipush (v := 9) hx hb dX5_free_13 (by decide) ?_
  obtain ⟨q1, c1, h⟩ := x_call h
  refine xCallH (w2 := HisW cA hr h0 s0) (xRunS (n := 2) (As := [.int (s0.1 + s0.2), .int 9]) (rest := [.ref (h0 1)]) ⟨hx, hb, hml, hown, hts⟩ (kJ9_floorMod_7cf53 l D cA  _ N (s0.1 + s0.2) 9 q1 c1) qco_J9_floorMod_7cf53 qml_X5_25 qst_J9_floorMod_7cf53 qini_J9 (by decide +kernel) (by rw [← erm]; rfl) hK hP hD [] rfl rfl rfl rfl hl.1 rfl (lv_room (Nat.le_of_ble_eq_true rfl)) dX5_free_15 ⟨Nat.zero_le _, Nat.zero_le _⟩) hP hD hS hA [] rfl rfl (xselH [none, none] rfl (by decide +kernel)) (fun H locs hP hD hS => ?_)
  obtain ⟨k2, hk2, h⟩ := x_rd h
  refine zRald (hr := hr) hx hb hK hP 1 4 rfl rfl hk2 dX5_free_18 ?_
  have h := Option.some.inj h
  subst h
  exact zAret (a := hr k2 0) hx hb hr9 hlocks hP hK hD hS dX5_free_19
def fX5_setAside (N : Nat)  (s0 : HisS) (s1 : BooS) (s2 : (Nat → BooS)) : Option (HisS × BooS × (Nat → BooS)) :=
  xcall (fX5_free N s0) fun q1 =>
  xnz (decide (q1 < 9)) <|
  xcall (fX3_copyFrom N (s2 q1) s1) fun q3 =>
  some (s0, q3.2, uprow s2 q1 q3.1)
set_option maxRecDepth 100000 in
set_option maxHeartbeats 4000000 in
theorem kX5_setAside (l : Launch) (D : va_G) (cA : Nat → ClassId) (ad : Nat → Nat) (hr : Nat → Nat → Nat) (h0 : Nat → Nat) (h1 : Nat → Nat) (sz N : Nat)  (s0 : HisS) (s1 : BooS) (s2 : (Nat → BooS)) (q : HisS × BooS × (Nat → BooS)) (h : fX5_setAside N s0 s1 s2 = some q) : zM l yX5_setAside cX5_setAside 2 none ({ frames := 3, cells := 0, slots := 0, locals := 82 }) D cA ad (HisW cA hr h0 s0 ++ BooW cA h1 s1 ++ RowW cA hr s2) sz [.ref (h0 0), .ref (h1 0)] (none) (HisW cA hr h0 q.1 ++ BooW cA h1 q.2.1 ++ RowW cA hr q.2.2) := by
  generalize erm : ({ frames := 3, cells := 0, slots := 0, locals := 82 } : Room) = rm
  refine zMet (by decide) (Nat.le_of_ble_eq_true rfl) ?_
  intro p e s m below meth c hx hb hr9 hlocks hml hts hown hin hK hP A eA hD hS hA hsz hN hE ls hl
  have hl : lv_has ls 2 [(0, .ref (h0 0)), (1, .ref (h1 0))] := hl
  clear eA
  rw [fX5_setAside] at h
  refine lv_aload_n hx hb dX5_setAside_0 rfl (lv_at hl 0 rfl) ?_
  obtain ⟨q1, c1, h⟩ := x_call h
  refine xCallH (w2 := HisW cA hr h0 s0 ++ BooW cA h1 s1 ++ RowW cA hr s2) (zRunV (n := 0) (As := []) (rest := []) ⟨hx, hb, hml, hown, hts⟩ (kX5_free l D cA ad hr h0 _ N s0 q1 c1) qco_X5_free qml_X5_31 qin_X5_free qse_X5_free qini_X5 (by decide +kernel) (by rw [← erm]; rfl) hN hE hS hA hK hP hD [0, 1] rfl rfl (q0 := 0) rfl rfl rfl rfl rfl hl.1 rfl (lv_room (Nat.le_of_ble_eq_true rfl)) dX5_setAside_1 ⟨Nat.zero_le _, Nat.zero_le _⟩) hP hD hS hA [0, 1] rfl rfl (xR2 (F := 27) [0, 1] (xselH [some 0, some 1, none, none, none, none, none, none, none, none, none, none, none, none, none, none, none, none, none, none, none, none, none, none, none, none, none] rfl (by decide +kernel)) rfl rfl (by decide +kernel)) (fun H locs hP hD hS => ?_)
  refine lv_aload_n hx hb dX5_setAside_4 rfl (lv_at hl 1 rfl) ?_
  obtain ⟨z2, h⟩ := x_nz h
  obtain ⟨q3, c3, h⟩ := x_call h
  have hk3 : q1 < 9 := (of_decide_eq_true z2)
  have hC3 : ([2, 3, 4, 5, 6, 7, 8, 9, 10, 11, 12, 13, 14, 15, 16, 17, 18, 19, 20, 21, 22, 23, 24, 25, 26] : List Nat).map (fun i => (HisW cA hr h0 s0 ++ BooW cA h1 s1 : va_W)[i]?) = (BooW cA h1 s1 : va_W).map some := rfl
  have hc3 := xRowCA (cA := cA) (hr := hr) (rs := s2) (F := 27) [2, 3, 4, 5, 6, 7, 8, 9, 10, 11, 12, 13, 14, 15, 16, 17, 18, 19, 20, 21, 22, 23, 24, 25, 26] hC3 hk3 rfl
  have hn3 : va_nd (rp 27 q1 ++ [2, 3, 4, 5, 6, 7, 8, 9, 10, 11, 12, 13, 14, 15, 16, 17, 18, 19, 20, 21, 22, 23, 24, 25, 26]) = true := (by decide +kernel : ∀ k : Nat, k < 9 → va_nd (rp 27 k ++ [2, 3, 4, 5, 6, 7, 8, 9, 10, 11, 12, 13, 14, 15, 16, 17, 18, 19, 20, 21, 22, 23, 24, 25, 26]) = true) q1 hk3
  have hw3 := xselH (ws := HisW cA hr h0 s0 ++ BooW cA h1 s1) (w1 := BooW cA h1 q3.2) (w2 := HisW cA hr h0 s0 ++ BooW cA h1 q3.2) (isC := [2, 3, 4, 5, 6, 7, 8, 9, 10, 11, 12, 13, 14, 15, 16, 17, 18, 19, 20, 21, 22, 23, 24, 25, 26]) [none, none, some 0, some 1, some 2, some 3, some 4, some 5, some 6, some 7, some 8, some 9, some 10, some 11, some 12, some 13, some 14, some 15, some 16, some 17, some 18, some 19, some 20, some 21, some 22, some 23, some 24] rfl (by decide +kernel)
  have h23 := xA2 (cA := cA) (hr := hr) (rs := s2) (b' := q3.1) (F := 27) [2, 3, 4, 5, 6, 7, 8, 9, 10, 11, 12, 13, 14, 15, 16, 17, 18, 19, 20, 21, 22, 23, 24, 25, 26] hC3 hk3 hw3 rfl rfl
  refine xCallH (w2 := HisW cA hr h0 s0 ++ BooW cA h1 q3.2 ++ RowW cA hr (uprow s2 q1 q3.1)) (zRunV (n := 1) (As := [.ref (h1 0)]) (rest := []) ⟨hx, hb, hml, hown, hts⟩ (kX3_copyFrom l D cA ad (hr q1) h1 _ N (s2 q1) s1 q3 c3) qco_X3_copyFrom qml_X5_35 qin_X3_copyFrom qse_X3_copyFrom qini_X3 (by decide +kernel) (by rw [← erm]; rfl) hN hE hS hA hK hP hD (rp 27 q1 ++ [2, 3, 4, 5, 6, 7, 8, 9, 10, 11, 12, 13, 14, 15, 16, 17, 18, 19, 20, 21, 22, 23, 24, 25, 26]) hc3 hn3 (q0 := 0) rfl rfl rfl rfl rfl hl.1 rfl (lv_room (Nat.le_of_ble_eq_true rfl)) dX5_setAside_5 ⟨Nat.zero_le _, Nat.zero_le _⟩) hP hD hS hA (rp 27 q1 ++ [2, 3, 4, 5, 6, 7, 8, 9, 10, 11, 12, 13, 14, 15, 16, 17, 18, 19, 20, 21, 22, 23, 24, 25, 26]) hc3 rfl h23 (fun H locs hP hD hS => ?_)
  have h := Option.some.inj h
  subst h
  exact xVret hx hb hr9 hlocks hP hK hD hS dX5_setAside_8
def fX5_putBack (N : Nat)  (s0 : HisS) (s1 : BooS) (s2 : (Nat → BooS)) : Option (HisS × BooS × (Nat → BooS)) :=
  xcall (fX5_free N s0) fun q1 =>
  xnz (decide (q1 < 9)) <|
  xcall (fX3_copyFrom N s1 (s2 q1)) fun q3 =>
  some (s0, q3.1, uprow s2 q1 q3.2)
set_option maxRecDepth 100000 in
set_option maxHeartbeats 4000000 in
theorem kX5_putBack (l : Launch) (D : va_G) (cA : Nat → ClassId) (ad : Nat → Nat) (hr : Nat → Nat → Nat) (h0 : Nat → Nat) (h1 : Nat → Nat) (sz N : Nat)  (s0 : HisS) (s1 : BooS) (s2 : (Nat → BooS)) (q : HisS × BooS × (Nat → BooS)) (h : fX5_putBack N s0 s1 s2 = some q) : zM l yX5_putBack cX5_putBack 2 none ({ frames := 3, cells := 0, slots := 0, locals := 82 }) D cA ad (HisW cA hr h0 s0 ++ BooW cA h1 s1 ++ RowW cA hr s2) sz [.ref (h0 0), .ref (h1 0)] (none) (HisW cA hr h0 q.1 ++ BooW cA h1 q.2.1 ++ RowW cA hr q.2.2) := by
  generalize erm : ({ frames := 3, cells := 0, slots := 0, locals := 82 } : Room) = rm
  refine zMet (by decide) (Nat.le_of_ble_eq_true rfl) ?_
  intro p e s m below meth c hx hb hr9 hlocks hml hts hown hin hK hP A eA hD hS hA hsz hN hE ls hl
  have hl : lv_has ls 2 [(0, .ref (h0 0)), (1, .ref (h1 0))] := hl
  clear eA
  rw [fX5_putBack] at h
  refine lv_aload_n hx hb dX5_putBack_0 rfl (lv_at hl 1 rfl) ?_
  refine lv_aload_n hx hb dX5_putBack_1 rfl (lv_at hl 0 rfl) ?_
  obtain ⟨q1, c1, h⟩ := x_call h
  refine xCallH (w2 := HisW cA hr h0 s0 ++ BooW cA h1 s1 ++ RowW cA hr s2) (zRunV (n := 0) (As := []) (rest := [.ref (h1 0)]) ⟨hx, hb, hml, hown, hts⟩ (kX5_free l D cA ad hr h0 _ N s0 q1 c1) qco_X5_free qml_X5_31 qin_X5_free qse_X5_free qini_X5 (by decide +kernel) (by rw [← erm]; rfl) hN hE hS hA hK hP hD [0, 1] rfl rfl (q0 := 0) rfl rfl rfl rfl rfl hl.1 rfl (lv_room (Nat.le_of_ble_eq_true rfl)) dX5_putBack_2 ⟨Nat.zero_le _, Nat.zero_le _⟩) hP hD hS hA [0, 1] rfl rfl (xR2 (F := 27) [0, 1] (xselH [some 0, some 1, none, none, none, none, none, none, none, none, none, none, none, none, none, none, none, none, none, none, none, none, none, none, none, none, none] rfl (by decide +kernel)) rfl rfl (by decide +kernel)) (fun H locs hP hD hS => ?_)
  obtain ⟨z2, h⟩ := x_nz h
  obtain ⟨q3, c3, h⟩ := x_call h
  have hk3 : q1 < 9 := (of_decide_eq_true z2)
  have hC3 : ([2, 3, 4, 5, 6, 7, 8, 9, 10, 11, 12, 13, 14, 15, 16, 17, 18, 19, 20, 21, 22, 23, 24, 25, 26] : List Nat).map (fun i => (HisW cA hr h0 s0 ++ BooW cA h1 s1 : va_W)[i]?) = (BooW cA h1 s1 : va_W).map some := rfl
  have hc3 := xRowCB (cA := cA) (hr := hr) (rs := s2) (F := 27) [2, 3, 4, 5, 6, 7, 8, 9, 10, 11, 12, 13, 14, 15, 16, 17, 18, 19, 20, 21, 22, 23, 24, 25, 26] hC3 hk3 rfl
  have hn3 : va_nd ([2, 3, 4, 5, 6, 7, 8, 9, 10, 11, 12, 13, 14, 15, 16, 17, 18, 19, 20, 21, 22, 23, 24, 25, 26] ++ rp 27 q1) = true := (by decide +kernel : ∀ k : Nat, k < 9 → va_nd ([2, 3, 4, 5, 6, 7, 8, 9, 10, 11, 12, 13, 14, 15, 16, 17, 18, 19, 20, 21, 22, 23, 24, 25, 26] ++ rp 27 k) = true) q1 hk3
  have hw3 := xselH (ws := HisW cA hr h0 s0 ++ BooW cA h1 s1) (w1 := BooW cA h1 q3.1) (w2 := HisW cA hr h0 s0 ++ BooW cA h1 q3.1) (isC := [2, 3, 4, 5, 6, 7, 8, 9, 10, 11, 12, 13, 14, 15, 16, 17, 18, 19, 20, 21, 22, 23, 24, 25, 26]) [none, none, some 0, some 1, some 2, some 3, some 4, some 5, some 6, some 7, some 8, some 9, some 10, some 11, some 12, some 13, some 14, some 15, some 16, some 17, some 18, some 19, some 20, some 21, some 22, some 23, some 24] rfl (by decide +kernel)
  have h23 := xB2 (cA := cA) (hr := hr) (rs := s2) (b' := q3.2) (F := 27) [2, 3, 4, 5, 6, 7, 8, 9, 10, 11, 12, 13, 14, 15, 16, 17, 18, 19, 20, 21, 22, 23, 24, 25, 26] hC3 hk3 hw3 rfl rfl rfl
  refine xCallH (w2 := HisW cA hr h0 s0 ++ BooW cA h1 q3.1 ++ RowW cA hr (uprow s2 q1 q3.2)) (zRunV (n := 1) (As := [.ref (hr q1 0)]) (rest := []) ⟨hx, hb, hml, hown, hts⟩ (kX3_copyFrom l D cA ad h1 (hr q1) _ N s1 (s2 q1) q3 c3) qco_X3_copyFrom qml_X5_35 qin_X3_copyFrom qse_X3_copyFrom qini_X3 (by decide +kernel) (by rw [← erm]; rfl) hN hE hS hA hK hP hD ([2, 3, 4, 5, 6, 7, 8, 9, 10, 11, 12, 13, 14, 15, 16, 17, 18, 19, 20, 21, 22, 23, 24, 25, 26] ++ rp 27 q1) hc3 hn3 (q0 := 0) rfl rfl rfl rfl rfl hl.1 rfl (lv_room (Nat.le_of_ble_eq_true rfl)) dX5_putBack_5 ⟨Nat.zero_le _, Nat.zero_le _⟩) hP hD hS hA ([2, 3, 4, 5, 6, 7, 8, 9, 10, 11, 12, 13, 14, 15, 16, 17, 18, 19, 20, 21, 22, 23, 24, 25, 26] ++ rp 27 q1) hc3 rfl h23 (fun H locs hP hD hS => ?_)
  have h := Option.some.inj h
  subst h
  exact xVret hx hb hr9 hlocks hP hK hD hS dX5_putBack_8
def fX5_keepAside (N : Nat)  (s0 : HisS) : Option (HisS) :=
  xjoin (fun (s0_1 : HisS) =>
      some s0_1
    ) fun J37 =>
  if 8 ≤ s0.2 then
    xcall (fJ9_floorMod_7cf53 N (s0.1 + 1) 9) fun q3 =>
    J37 ((Hiss0 s0 q3))
  else
    xlet (s0.2 + 1) fun x4 =>
    J37 ((Hiss1 s0 x4))
set_option maxRecDepth 100000 in
set_option maxHeartbeats 4000000 in
theorem kX5_keepAside (l : Launch) (D : va_G) (cA : Nat → ClassId) (ad : Nat → Nat) (hr : Nat → Nat → Nat) (h0 : Nat → Nat) (sz N : Nat)  (s0 : HisS) (q : HisS) (h : fX5_keepAside N s0 = some q) : zM l yX5_keepAside cX5_keepAside 1 none ({ frames := 1, cells := 0, slots := 0, locals := 22 }) D cA ad (HisW cA hr h0 s0) sz [.ref (h0 0)] (none) (HisW cA hr h0 q) := by
  generalize erm : ({ frames := 1, cells := 0, slots := 0, locals := 22 } : Room) = rm
  refine zMet (by decide) (Nat.le_of_ble_eq_true rfl) ?_
  intro p e s m below meth c hx hb hr9 hlocks hml hts hown hin hK hP A eA hD hS hA hsz hN hE ls hl
  have hl : lv_has ls 1 [(0, .ref (h0 0))] := hl
  clear eA
  rw [fX5_keepAside] at h
  refine lv_aload_n hx hb dX5_keepAside_0 rfl (lv_at hl 0 rfl) ?_
  refine va_get (D := D) (ci := 5) (v := .int s0.2) (C := RX5) (T := TX5) (N := 3) hx hb hts iX5 hown hK hP 0 rfl rfl 2 (by decide) (hts _ qfl_X5_22) (fun _ h9 => h9) rfl dX5_keepAside_1 ?_
  refine lv_bipush (v := 8) hx hb dX5_keepAside_4 (by decide) ?_
  obtain ⟨J37, eJ37, h⟩ := x_join h
  have hJ_J37 : ∀ (s0_1 : HisS) (H : Heap) (locs : List Loc), va_P D vwCl (HisW cA hr h0 s0_1) H → va_D A (HisW cA hr h0 s0_1) → va_S A s.heap H locs → ∀ ls : Array Slot, lv_has ls 1 [] → J37 s0_1 = some q → W p l e rm s m ([.ref (h0 0)] : List Value).toArray below meth c H locs 0 0 (MQ below (xQ D cA A (HisW cA hr h0 q) (none)) ([.ref (h0 0)] : List Value).toArray s 0 0 A) (F0 m 37 ls []) := by
    clear h hP hD hS hl
    intro s0_1 H locs hP hD hS ls hl h
    rw [eJ37] at h
    have h := Option.some.inj h
    subst h
    exact xVret hx hb hr9 hlocks hP hK hD hS dX5_keepAside_37
  refine lv_icmp_ge (tgt := 22) hx hb dX5_keepAside_6 (by decide) (fun c2 => ?_) (fun c2 => ?_)
  · have h := x_t h c2
    refine lv_aload_n hx hb dX5_keepAside_22 rfl (lv_at hl 0 rfl) ?_
    refine lv_aload_n hx hb dX5_keepAside_23 rfl (lv_at hl 0 rfl) ?_
    refine va_get (D := D) (ci := 5) (v := .int s0.1) (C := RX5) (T := TX5) (N := 3) hx hb hts iX5 hown hK hP 0 rfl rfl 1 (by decide) (hts _ qfl_X5_18) (fun _ h9 => h9) rfl dX5_keepAside_24 ?_
    refine lv_iconst (v := 1) hx hb dX5_keepAside_27 (by decide) ?_
    refine lv_iadd hx hb dX5_keepAside_28 ?_
    refine lv_bipush (v := 9) hx hb dX5_keepAside_29 (by decide) ?_
    obtain ⟨q3, c3, h⟩ := x_call h
    refine xCallH (w2 := HisW cA hr h0 s0) (xRunS (n := 2) (As := [.int (s0.1 + 1), .int 9]) (rest := [.ref (h0 0)]) ⟨hx, hb, hml, hown, hts⟩ (kJ9_floorMod_7cf53 l D cA  _ N (s0.1 + 1) 9 q3 c3) qco_J9_floorMod_7cf53 qml_X5_25 qst_J9_floorMod_7cf53 qini_J9 (by decide +kernel) (by rw [← erm]; rfl) hK hP hD [] rfl rfl rfl rfl hl.1 rfl (lv_room (Nat.le_of_ble_eq_true rfl)) dX5_keepAside_31 ⟨Nat.zero_le _, Nat.zero_le _⟩) hP hD hS hA [] rfl rfl (xselH [none, none] rfl (by decide +kernel)) (fun H locs hP hD hS => ?_)
    refine va_put (D := D) (ci := 5) (v := .int q3) (ty := .int) (C := RX5) (T := TX5) (N := 3) hx hb hts iX5 tyX5 tyX5_ok nmX5 hown hK hP hD hS 0 rfl rfl 1 (by decide) (hts _ qfl_X5_18) (fun _ h9 => h9) rfl (by decide +kernel) rfl rfl (Nat.le_of_ble_eq_true rfl) dX5_keepAside_34 (fun H locs hP hD hS => ?_)
    have hP : va_P D vwCl (HisW cA hr h0 ((Hiss0 s0 q3))) H := hP
    have hD : va_D A (HisW cA hr h0 ((Hiss0 s0 q3))) := hD
    exact hJ_J37 ((Hiss0 s0 q3)) _ _ hP hD hS _ (lv_sub hl [] rfl) h
  · have h := x_f h c2
    refine lv_aload_n hx hb dX5_keepAside_9 rfl (lv_at hl 0 rfl) ?_
    refine lv_dup hx hb dX5_keepAside_10 rfl ?_
    refine va_get (D := D) (ci := 5) (v := .int s0.2) (C := RX5) (T := TX5) (N := 3) hx hb hts iX5 hown hK hP 0 rfl rfl 2 (by decide) (hts _ qfl_X5_22) (fun _ h9 => h9) rfl dX5_keepAside_11 ?_
    refine lv_iconst (v := 1) hx hb dX5_keepAside_14 (by decide) ?_
    refine lv_iadd hx hb dX5_keepAside_15 ?_
    refine lv_topi (fun x4 ex4 => ?_)
    have h := x_let h ex4
    refine va_put (D := D) (ci := 5) (v := .int x4) (ty := .int) (C := RX5) (T := TX5) (N := 3) hx hb hts iX5 tyX5 tyX5_ok nmX5 hown hK hP hD hS 0 rfl rfl 2 (by decide) (hts _ qfl_X5_22) (fun _ h9 => h9) rfl (by decide +kernel) rfl rfl (Nat.le_of_ble_eq_true rfl) dX5_keepAside_16 (fun H locs hP hD hS => ?_)
    have hP : va_P D vwCl (HisW cA hr h0 ((Hiss1 s0 x4))) H := hP
    have hD : va_D A (HisW cA hr h0 ((Hiss1 s0 x4))) := hD
    refine lv_goto (tgt := 37) hx hb dX5_keepAside_19 (by decide) ?_
    exact hJ_J37 ((Hiss1 s0 x4)) _ _ hP hD hS _ (lv_sub hl [] rfl) h
def fX5_stepBack (N : Nat)  (s0 : HisS) (s1 : BooS) (s2 : (Nat → BooS)) : Option (HisS × BooS × (Nat → BooS)) :=
  xlet (s0.2 - 1) fun x1 =>
  xcall (fX5_putBack N ((Hiss1 s0 x1)) s1 s2) fun q2 =>
  some (q2.1, q2.2.1, q2.2.2)
set_option maxRecDepth 100000 in
set_option maxHeartbeats 4000000 in
theorem kX5_stepBack (l : Launch) (D : va_G) (cA : Nat → ClassId) (ad : Nat → Nat) (hr : Nat → Nat → Nat) (h0 : Nat → Nat) (h1 : Nat → Nat) (sz N : Nat)  (s0 : HisS) (s1 : BooS) (s2 : (Nat → BooS)) (q : HisS × BooS × (Nat → BooS)) (h : fX5_stepBack N s0 s1 s2 = some q) : zM l yX5_stepBack cX5_stepBack 2 none ({ frames := 4, cells := 0, slots := 0, locals := 103 }) D cA ad (HisW cA hr h0 s0 ++ BooW cA h1 s1 ++ RowW cA hr s2) sz [.ref (h0 0), .ref (h1 0)] (none) (HisW cA hr h0 q.1 ++ BooW cA h1 q.2.1 ++ RowW cA hr q.2.2) := by
  generalize erm : ({ frames := 4, cells := 0, slots := 0, locals := 103 } : Room) = rm
  refine zMet (by decide) (Nat.le_of_ble_eq_true rfl) ?_
  intro p e s m below meth c hx hb hr9 hlocks hml hts hown hin hK hP A eA hD hS hA hsz hN hE ls hl
  have hl : lv_has ls 2 [(0, .ref (h0 0)), (1, .ref (h1 0))] := hl
  clear eA
  rw [fX5_stepBack] at h
  refine lv_aload_n hx hb dX5_stepBack_0 rfl (lv_at hl 0 rfl) ?_
  refine lv_dup hx hb dX5_stepBack_1 rfl ?_
  refine va_get (D := D) (ci := 5) (v := .int s0.2) (C := RX5) (T := TX5) (N := 3) hx hb hts iX5 hown hK hP 0 rfl rfl 2 (by decide) (hts _ qfl_X5_22) (fun _ h9 => h9) rfl dX5_stepBack_2 ?_
  refine lv_iconst (v := 1) hx hb dX5_stepBack_5 (by decide) ?_
  refine lv_isub hx hb dX5_stepBack_6 ?_
  refine lv_topi (fun x1 ex1 => ?_)
  have h := x_let h ex1
  refine va_put (D := D) (ci := 5) (v := .int x1) (ty := .int) (C := RX5) (T := TX5) (N := 3) hx hb hts iX5 tyX5 tyX5_ok nmX5 hown hK hP hD hS 0 rfl rfl 2 (by decide) (hts _ qfl_X5_22) (fun _ h9 => h9) rfl (by decide +kernel) rfl rfl (Nat.le_of_ble_eq_true rfl) dX5_stepBack_7 (fun H locs hP hD hS => ?_)
  have hP : va_P D vwCl (HisW cA hr h0 ((Hiss1 s0 x1)) ++ BooW cA h1 s1 ++ RowW cA hr s2) H := hP
  have hD : va_D A (HisW cA hr h0 ((Hiss1 s0 x1)) ++ BooW cA h1 s1 ++ RowW cA hr s2) := hD
  refine lv_aload_n hx hb dX5_stepBack_10 rfl (lv_at hl 0 rfl) ?_
  refine lv_aload_n hx hb dX5_stepBack_11 rfl (lv_at hl 1 rfl) ?_
  obtain ⟨q2, c2, h⟩ := x_call h
  refine xCallH (w2 := HisW cA hr h0 q2.1 ++ BooW cA h1 q2.2.1 ++ RowW cA hr q2.2.2) (zRunV (n := 1) (As := [.ref (h1 0)]) (rest := []) ⟨hx, hb, hml, hown, hts⟩ (kX5_putBack l D cA ad hr h0 h1 _ N ((Hiss1 s0 x1)) s1 s2 q2 c2) qco_X5_putBack qml_X5_39 qin_X5_putBack qse_X5_putBack qini_X5 (by decide +kernel) (by rw [← erm]; rfl) hN hE hS hA hK hP hD ([0, 1, 2, 3, 4, 5, 6, 7, 8, 9, 10, 11, 12, 13, 14, 15, 16, 17, 18, 19, 20, 21, 22, 23, 24, 25, 26] ++ tp 27) (xTailC [0, 1, 2, 3, 4, 5, 6, 7, 8, 9, 10, 11, 12, 13, 14, 15, 16, 17, 18, 19, 20, 21, 22, 23, 24, 25, 26] rfl rfl) (by decide +kernel) (q0 := 0) rfl rfl rfl rfl rfl hl.1 rfl (lv_room (Nat.le_of_ble_eq_true rfl)) dX5_stepBack_12 ⟨Nat.zero_le _, Nat.zero_le _⟩) hP hD hS hA ([0, 1, 2, 3, 4, 5, 6, 7, 8, 9, 10, 11, 12, 13, 14, 15, 16, 17, 18, 19, 20, 21, 22, 23, 24, 25, 26] ++ tp 27) (xTailC [0, 1, 2, 3, 4, 5, 6, 7, 8, 9, 10, 11, 12, 13, 14, 15, 16, 17, 18, 19, 20, 21, 22, 23, 24, 25, 26] rfl rfl) (xTailF rfl) (xT2 (F := 27) [0, 1, 2, 3, 4, 5, 6, 7, 8, 9, 10, 11, 12, 13, 14, 15, 16, 17, 18, 19, 20, 21, 22, 23, 24, 25, 26] (xselH [some 0, some 1, some 2, some 3, some 4, some 5, some 6, some 7, some 8, some 9, some 10, some 11, some 12, some 13, some 14, some 15, some 16, some 17, some 18, some 19, some 20, some 21, some 22, some 23, some 24, some 25, some 26] rfl (by decide +kernel)) rfl rfl rfl) (fun H locs hP hD hS => ?_)
  have h := Option.some.inj h
  subst h
  exact xVret hx hb hr9 hlocks hP hK hD hS dX5_stepBack_15
def fX5_clear (N : Nat)  (s0 : HisS) : Option (HisS) :=
  some ((Hiss1 s0 0))
set_option maxRecDepth 100000 in
set_option maxHeartbeats 4000000 in
theorem kX5_clear (l : Launch) (D : va_G) (cA : Nat → ClassId) (ad : Nat → Nat) (hr : Nat → Nat → Nat) (h0 : Nat → Nat) (sz N : Nat)  (s0 : HisS) (q : HisS) (h : fX5_clear N s0 = some q) : zM l yX5_clear cX5_clear 1 none ({ frames := 0, cells := 0, slots := 0, locals := 0 }) D cA ad (HisW cA hr h0 s0) sz [.ref (h0 0)] (none) (HisW cA hr h0 q) := by
  generalize erm : ({ frames := 0, cells := 0, slots := 0, locals := 0 } : Room) = rm
  refine zMet (by decide) (Nat.le_of_ble_eq_true rfl) ?_
  intro p e s m below meth c hx hb hr9 hlocks hml hts hown hin hK hP A eA hD hS hA hsz hN hE ls hl
  have hl : lv_has ls 1 [(0, .ref (h0 0))] := hl
  clear eA
  rw [fX5_clear] at h
  refine lv_aload_n hx hb dX5_clear_0 rfl (lv_at hl 0 rfl) ?_
  refine lv_iconst (v := 0) hx hb dX5_clear_1 (by decide) ?_
  refine va_put (D := D) (ci := 5) (v := .int 0) (ty := .int) (C := RX5) (T := TX5) (N := 3) hx hb hts iX5 tyX5 tyX5_ok nmX5 hown hK hP hD hS 0 rfl rfl 2 (by decide) (hts _ qfl_X5_22) (fun _ h9 => h9) rfl (by decide +kernel) rfl rfl (Nat.le_of_ble_eq_true rfl) dX5_clear_2 (fun H locs hP hD hS => ?_)
  have hP : va_P D vwCl (HisW cA hr h0 ((Hiss1 s0 0))) H := hP
  have hD : va_D A (HisW cA hr h0 ((Hiss1 s0 0))) := hD
  have h := Option.some.inj h
  subst h
  exact xVret hx hb hr9 hlocks hP hK hD hS dX5_clear_5
