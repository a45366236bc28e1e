/-! helpers -/
set_option maxRecDepth 100000 in
set_option maxHeartbeats 4000000 in
theorem h_timesLeft (l : Launch) (hl9 : l.stackTraces = false) (D : va_G) (cA : Nat → ClassId) (ad : Nat → Nat) (hr : Nat → Nat → Nat) (h0 : Nat → Nat) (o od sz N : Nat) (a1 : Int32) (f : Nat → Int64) (g : Nat → UInt64) (s0 : ThlS) (s1 : Nat → BooS) (k : Nat) (v : Int32) (h : fX12_timesLeft N a1 s0 = some (k, v)) (hq : k = 0 ∨ k ∈ ([1] : List Nat)) : hM l yL_timesLeft cL_timesLeft 4 hh_timesLeft ({ frames := 8, cells := 1, slots := 6, locals := 132 }) D cA ad (HW cA ad hr h0 o od f g s0 s1) sz [.ref (h0 0), .int a1, .ref o] (some (.int (iI (lawC [1] k : Int)))) (HW cA ad hr h0 o od (fU k f v.toInt64) g s0 s1) 1 6 := by
  generalize erm : ({ frames := 8, cells := 1, slots := 6, locals := 132 } : Room) = rm
  refine hMet (by decide) (Nat.le_of_ble_eq_true rfl) ?_
  intro p e s m below meth c hx hb hr9 hlocks hml hts hown hK hP A eA hD hS hA hsz hN hE hV hX htab ls hl
  have hl : lv_has ls 4 [(0, .ref (h0 0)), (1, .int a1), (2, .ref o)] := hl
  clear eA
  refine lv_aload_n hx hb dL_timesLeft_0 rfl (lv_at hl 2 rfl) ?_
  refine lv_iconst (v := 0) hx hb dL_timesLeft_1 (by decide) ?_
  refine lv_aload_n hx hb dL_timesLeft_2 rfl (lv_at hl 0 rfl) ?_
  refine lv_iload_n hx hb dL_timesLeft_3 rfl (lv_at hl 1 rfl) ?_
  refine vCall (w2 := HW cA ad hr h0 o od f g s0 s1) (vRunV (n := 1) (As := [.int a1]) (rest := [.int 0, .ref o]) ⟨hx, hb, hml, hown, hts⟩ (kX12_timesLeft l hl9 D cA ad hr h0 _ N a1 s0 (k, v) h) qco_X12_timesLeft qml_L_105 qin_X12_timesLeft qse_X12_timesLeft qini_X12 (by decide +kernel) (by rw [← erm]; rfl) hN hE hV hS hA hK hP hD (mid 2 61) (mid_C (A := HA cA o od f g) (B := ThlW cA ad hr h0 s0) (C := RowW cA hr s1) rfl rfl) (mid_nd _ _) (q0 := 0) rfl rfl rfl rfl rfl hl.1 rfl (lv_room (Nat.le_of_ble_eq_true rfl)) dL_timesLeft_4 ⟨(by rw [← erm]; exact Nat.le_of_ble_eq_true rfl), (by rw [← erm]; exact Nat.le_of_ble_eq_true rfl)⟩) hP hD hS hA (mid 2 61) (mid_C (A := HA cA o od f g) (B := ThlW cA ad hr h0 s0) (C := RowW cA hr s1) rfl rfl) rfl (mid_H (A := HA cA o od f g) (B := ThlW cA ad hr h0 s0) (B' := ThlW cA ad hr h0 s0) (C := RowW cA hr s1) rfl rfl rfl) (fun hne q9 ce H locs hP hD hS hc1 hc2 hc3 => ?_) (fun hk H locs hP hD hS => ?_)
  · rcases hq with hq | hq
    · exact absurd hq hne
    have hq := List.mem_singleton.mp hq
    subst hq
    refine vx_catch hown [] ⟨0, 9, 12, 21⟩ [] htab hp0 (by decide) (by decide) (hts _ qcx_L_21) (hN.use qca_1) hc1 hc2 hc3 ?_
    refine lv_astore_n (lv' := [(3, .ref q9), (0, .ref (h0 0)), (1, .int a1), (2, .ref o)]) hx hb dL_timesLeft_12 rfl hl (by decide) rfl (fun ls hl => ?_)
    refine lv_iconst (v := iI (lawC [1] 1 : Int)) hx hb dL_timesLeft_13 (by decide +kernel) ?_
    exact hIret hx hb hr9 hlocks hP hK hD hS dL_timesLeft_14
  · subst hk
    refine lv_i2l (v := v.toInt64) hx hb dL_timesLeft_7 rfl ?_
    refine xLast (w2 := fun zz => HW cA ad hr h0 o od zz g s0 s1) hx hb hK hP hD hS 0 2 rfl rfl (x_lit (n := 1) (k := 0) (by decide)) (fun _ => rfl) dL_timesLeft_8 (fun g9 eg9 H locs hP hD hS => ?_)
    subst eg9
    refine lv_goto (tgt := 15) hx hb dL_timesLeft_9 (by decide) ?_
    refine lv_iconst (v := iI (lawC [1] 0 : Int)) hx hb dL_timesLeft_15 (by decide +kernel) ?_
    exact hIret hx hb hr9 hlocks hP hK hD hS dL_timesLeft_16
set_option maxRecDepth 100000 in
set_option maxHeartbeats 4000000 in
theorem h_cashIn (l : Launch) (hl9 : l.stackTraces = false) (D : va_G) (cA : Nat → ClassId) (ad : Nat → Nat) (hr : Nat → Nat → Nat) (h0 : Nat → Nat) (o od sz N : Nat) (a1 : Int32) (f : Nat → Int64) (g : Nat → UInt64) (s0 : ThlS) (s1 : Nat → BooS) (k : Nat) (v : Int64) (h : fX12_cashIn N a1 s0 = some (k, v)) (hq : k = 0 ∨ k ∈ ([3] : List Nat)) : hM l yL_cashIn cL_cashIn 4 hh_cashIn ({ frames := 7, cells := 1, slots := 6, locals := 111 }) D cA ad (HW cA ad hr h0 o od f g s0 s1) sz [.ref (h0 0), .int a1, .ref o] (some (.int (iI (lawC [3] k : Int)))) (HW cA ad hr h0 o od (fU k f v) g s0 s1) 1 6 := by
  generalize erm : ({ frames := 7, cells := 1, slots := 6, locals := 111 } : Room) = rm
  refine hMet (by decide) (Nat.le_of_ble_eq_true rfl) ?_
  intro p e s m below meth c hx hb hr9 hlocks hml hts hown hK hP A eA hD hS hA hsz hN hE hV hX htab ls hl
  have hl : lv_has ls 4 [(0, .ref (h0 0)), (1, .int a1), (2, .ref o)] := hl
  clear eA
  refine lv_aload_n hx hb dL_cashIn_0 rfl (lv_at hl 2 rfl) ?_
  refine lv_iconst (v := 0) hx hb dL_cashIn_1 (by decide) ?_
  refine lv_aload_n hx hb dL_cashIn_2 rfl (lv_at hl 0 rfl) ?_
  refine lv_iload_n hx hb dL_cashIn_3 rfl (lv_at hl 1 rfl) ?_
  refine vCall (w2 := HW cA ad hr h0 o od f g s0 s1) (vRunV (n := 1) (As := [.int a1]) (rest := [.int 0, .ref o]) ⟨hx, hb, hml, hown, hts⟩ (kX12_cashIn l hl9 D cA ad hr h0 _ N a1 s0 (k, v) h) qco_X12_cashIn qml_L_108 qin_X12_cashIn qse_X12_cashIn qini_X12 (by decide +kernel) (by rw [← erm]; rfl) hN hE hV hS hA hK hP hD (mid 2 61) (mid_C (A := HA cA o od f g) (B := ThlW cA ad hr h0 s0) (C := RowW cA hr s1) rfl rfl) (mid_nd _ _) (q0 := 0) rfl rfl rfl rfl rfl hl.1 rfl (lv_room (Nat.le_of_ble_eq_true rfl)) dL_cashIn_4 ⟨(by rw [← erm]; exact Nat.le_of_ble_eq_true rfl), (by rw [← erm]; exact Nat.le_of_ble_eq_true rfl)⟩) hP hD hS hA (mid 2 61) (mid_C (A := HA cA o od f g) (B := ThlW cA ad hr h0 s0) (C := RowW cA hr s1) rfl rfl) rfl (mid_H (A := HA cA o od f g) (B := ThlW cA ad hr h0 s0) (B' := ThlW cA ad hr h0 s0) (C := RowW cA hr s1) rfl rfl rfl) (fun hne q9 ce H locs hP hD hS hc1 hc2 hc3 => ?_) (fun hk H locs hP hD hS => ?_)
  · rcases hq with hq | hq
    · exact absurd hq hne
    have hq := List.mem_singleton.mp hq
    subst hq
    refine vx_catch hown [] ⟨0, 8, 11, 13⟩ [] htab hp0 (by decide) (by decide) (hts _ qcx_L_13) (hN.use qca_3) hc1 hc2 hc3 ?_
    refine lv_astore_n (lv' := [(3, .ref q9), (0, .ref (h0 0)), (1, .int a1), (2, .ref o)]) hx hb dL_cashIn_11 rfl hl (by decide) rfl (fun ls hl => ?_)
    refine lv_iconst (v := iI (lawC [3] 3 : Int)) hx hb dL_cashIn_12 (by decide +kernel) ?_
    exact hIret hx hb hr9 hlocks hP hK hD hS dL_cashIn_13
  · subst hk
    refine xLast (w2 := fun zz => HW cA ad hr h0 o od zz g s0 s1) hx hb hK hP hD hS 0 2 rfl rfl (x_lit (n := 1) (k := 0) (by decide)) (fun _ => rfl) dL_cashIn_7 (fun g9 eg9 H locs hP hD hS => ?_)
    subst eg9
    refine lv_goto (tgt := 14) hx hb dL_cashIn_8 (by decide) ?_
    refine lv_iconst (v := iI (lawC [3] 0 : Int)) hx hb dL_cashIn_14 (by decide +kernel) ?_
    exact hIret hx hb hr9 hlocks hP hK hD hS dL_cashIn_15
set_option maxRecDepth 100000 in
set_option maxHeartbeats 4000000 in
theorem h_costOf (l : Launch) (hl9 : l.stackTraces = false) (D : va_G) (cA : Nat → ClassId) (ad : Nat → Nat) (hr : Nat → Nat → Nat) (h0 : Nat → Nat) (o od sz N : Nat) (a1 : Int32) (f : Nat → Int64) (g : Nat → UInt64) (s0 : ThlS) (s1 : Nat → BooS) (k : Nat) (v : Int32) (h : fX12_costOf N a1 s0 = some (k, v)) (hq : k = 0 ∨ k ∈ ([3, 4] : List Nat)) : hM l yL_costOf cL_costOf 4 hh_costOf ({ frames := 8, cells := 1, slots := 6, locals := 131 }) D cA ad (HW cA ad hr h0 o od f g s0 s1) sz [.ref (h0 0), .int a1, .ref o] (some (.int (iI (lawC [3, 4] k : Int)))) (HW cA ad hr h0 o od (fU k f v.toInt64) g s0 s1) 1 6 := by
  generalize erm : ({ frames := 8, cells := 1, slots := 6, locals := 131 } : Room) = rm
  refine hMet (by decide) (Nat.le_of_ble_eq_true rfl) ?_
  intro p e s m below meth c hx hb hr9 hlocks hml hts hown hK hP A eA hD hS hA hsz hN hE hV hX htab ls hl
  have hl : lv_has ls 4 [(0, .ref (h0 0)), (1, .int a1), (2, .ref o)] := hl
  clear eA
  refine lv_aload_n hx hb dL_costOf_0 rfl (lv_at hl 2 rfl) ?_
  refine lv_iconst (v := 0) hx hb dL_costOf_1 (by decide) ?_
  refine lv_aload_n hx hb dL_costOf_2 rfl (lv_at hl 0 rfl) ?_
  refine lv_iload_n hx hb dL_costOf_3 rfl (lv_at hl 1 rfl) ?_
  refine vCall (w2 := HW cA ad hr h0 o od f g s0 s1) (vRunV (n := 1) (As := [.int a1]) (rest := [.int 0, .ref o]) ⟨hx, hb, hml, hown, hts⟩ (kX12_costOf l hl9 D cA ad hr h0 _ N a1 s0 (k, v) h) qco_X12_costOf qml_L_111 qin_X12_costOf qse_X12_costOf qini_X12 (by decide +kernel) (by rw [← erm]; rfl) hN hE hV hS hA hK hP hD (mid 2 61) (mid_C (A := HA cA o od f g) (B := ThlW cA ad hr h0 s0) (C := RowW cA hr s1) rfl rfl) (mid_nd _ _) (q0 := 0) rfl rfl rfl rfl rfl hl.1 rfl (lv_room (Nat.le_of_ble_eq_true rfl)) dL_costOf_4 ⟨(by rw [← erm]; exact Nat.le_of_ble_eq_true rfl), (by rw [← erm]; exact Nat.le_of_ble_eq_true rfl)⟩) hP hD hS hA (mid 2 61) (mid_C (A := HA cA o od f g) (B := ThlW cA ad hr h0 s0) (C := RowW cA hr s1) rfl rfl) rfl (mid_H (A := HA cA o od f g) (B := ThlW cA ad hr h0 s0) (B' := ThlW cA ad hr h0 s0) (C := RowW cA hr s1) rfl rfl rfl) (fun hne q9 ce H locs hP hD hS hc1 hc2 hc3 => ?_) (fun hk H locs hP hD hS => ?_)
  · rcases hq with hq | hq
    · exact absurd hq hne
    rcases List.mem_cons.mp hq with hq | hq
    · subst hq
      refine vx_catch hown [] ⟨0, 9, 12, 13⟩ [⟨0, 9, 15, 15⟩] htab hp0 (by decide) (by decide) (hts _ qcx_L_13) (hN.use qca_3) hc1 hc2 hc3 ?_
      refine lv_astore_n (lv' := [(3, .ref q9), (0, .ref (h0 0)), (1, .int a1), (2, .ref o)]) hx hb dL_costOf_12 rfl hl (by decide) rfl (fun ls hl => ?_)
      refine lv_iconst (v := iI (lawC [3, 4] 3 : Int)) hx hb dL_costOf_13 (by decide +kernel) ?_
      exact hIret hx hb hr9 hlocks hP hK hD hS dL_costOf_14
    have hq := List.mem_singleton.mp hq
    subst hq
    refine vx_catch hown [⟨0, 9, 12, 13⟩] ⟨0, 9, 15, 15⟩ [] htab (hpc (.inr ⟨by decide, xEx 3, hts _ qcx_L_13, hX 3 2 (by decide) (by decide) (by decide)⟩) hp0) (by decide) (by decide) (hts _ qcx_L_15) (hN.use qca_4) hc1 hc2 hc3 ?_
    refine lv_astore_n (lv' := [(3, .ref q9), (0, .ref (h0 0)), (1, .int a1), (2, .ref o)]) hx hb dL_costOf_15 rfl hl (by decide) rfl (fun ls hl => ?_)
    refine lv_iconst (v := iI (lawC [3, 4] 4 : Int)) hx hb dL_costOf_16 (by decide +kernel) ?_
    exact hIret hx hb hr9 hlocks hP hK hD hS dL_costOf_17
  · subst hk
    refine lv_i2l (v := v.toInt64) hx hb dL_costOf_7 rfl ?_
    refine xLast (w2 := fun zz => HW cA ad hr h0 o od zz g s0 s1) hx hb hK hP hD hS 0 2 rfl rfl (x_lit (n := 1) (k := 0) (by decide)) (fun _ => rfl) dL_costOf_8 (fun g9 eg9 H locs hP hD hS => ?_)
    subst eg9
    refine lv_goto (tgt := 18) hx hb dL_costOf_9 (by decide) ?_
    refine lv_iconst (v := iI (lawC [3, 4] 0 : Int)) hx hb dL_costOf_18 (by decide +kernel) ?_
    exact hIret hx hb hr9 hlocks hP hK hD hS dL_costOf_19
set_option maxRecDepth 100000 in
set_option maxHeartbeats 4000000 in
theorem h_costByCostumes (l : Launch) (hl9 : l.stackTraces = false) (D : va_G) (cA : Nat → ClassId) (ad : Nat → Nat) (hr : Nat → Nat → Nat) (h0 : Nat → Nat) (o od sz N : Nat) (a1 : Int32) (f : Nat → Int64) (g : Nat → UInt64) (s0 : ThlS) (s1 : Nat → BooS) (k : Nat) (v : Int32) (h : fX12_costByCostumes N a1 s0 = some (k, v)) (hq : k = 0 ∨ k ∈ ([3, 4] : List Nat)) : hM l yL_costByCostumes cL_costByCostumes 4 hh_costByCostumes ({ frames := 8, cells := 1, slots := 6, locals := 131 }) D cA ad (HW cA ad hr h0 o od f g s0 s1) sz [.ref (h0 0), .int a1, .ref o] (some (.int (iI (lawC [3, 4] k : Int)))) (HW cA ad hr h0 o od (fU k f v.toInt64) g s0 s1) 1 6 := by
  generalize erm : ({ frames := 8, cells := 1, slots := 6, locals := 131 } : Room) = rm
  refine hMet (by decide) (Nat.le_of_ble_eq_true rfl) ?_
  intro p e s m below meth c hx hb hr9 hlocks hml hts hown hK hP A eA hD hS hA hsz hN hE hV hX htab ls hl
  have hl : lv_has ls 4 [(0, .ref (h0 0)), (1, .int a1), (2, .ref o)] := hl
  clear eA
  refine lv_aload_n hx hb dL_costByCostumes_0 rfl (lv_at hl 2 rfl) ?_
  refine lv_iconst (v := 0) hx hb dL_costByCostumes_1 (by decide) ?_
  refine lv_aload_n hx hb dL_costByCostumes_2 rfl (lv_at hl 0 rfl) ?_
  refine lv_iload_n hx hb dL_costByCostumes_3 rfl (lv_at hl 1 rfl) ?_
  refine vCall (w2 := HW cA ad hr h0 o od f g s0 s1) (vRunV (n := 1) (As := [.int a1]) (rest := [.int 0, .ref o]) ⟨hx, hb, hml, hown, hts⟩ (kX12_costByCostumes l hl9 D cA ad hr h0 _ N a1 s0 (k, v) h) qco_X12_costByCostumes qml_L_114 qin_X12_costByCostumes qse_X12_costByCostumes qini_X12 (by decide +kernel) (by rw [← erm]; rfl) hN hE hV hS hA hK hP hD (mid 2 61) (mid_C (A := HA cA o od f g) (B := ThlW cA ad hr h0 s0) (C := RowW cA hr s1) rfl rfl) (mid_nd _ _) (q0 := 0) rfl rfl rfl rfl rfl hl.1 rfl (lv_room (Nat.le_of_ble_eq_true rfl)) dL_costByCostumes_4 ⟨(by rw [← erm]; exact Nat.le_of_ble_eq_true rfl), (by rw [← erm]; exact Nat.le_of_ble_eq_true rfl)⟩) hP hD hS hA (mid 2 61) (mid_C (A := HA cA o od f g) (B := ThlW cA ad hr h0 s0) (C := RowW cA hr s1) rfl rfl) rfl (mid_H (A := HA cA o od f g) (B := ThlW cA ad hr h0 s0) (B' := ThlW cA ad hr h0 s0) (C := RowW cA hr s1) rfl rfl rfl) (fun hne q9 ce H locs hP hD hS hc1 hc2 hc3 => ?_) (fun hk H locs hP hD hS => ?_)
  · rcases hq with hq | hq
    · exact absurd hq hne
    rcases List.mem_cons.mp hq with hq | hq
    · subst hq
      refine vx_catch hown [] ⟨0, 9, 12, 13⟩ [⟨0, 9, 15, 15⟩] htab hp0 (by decide) (by decide) (hts _ qcx_L_13) (hN.use qca_3) hc1 hc2 hc3 ?_
      refine lv_astore_n (lv' := [(3, .ref q9), (0, .ref (h0 0)), (1, .int a1), (2, .ref o)]) hx hb dL_costByCostumes_12 rfl hl (by decide) rfl (fun ls hl => ?_)
      refine lv_iconst (v := iI (lawC [3, 4] 3 : Int)) hx hb dL_costByCostumes_13 (by decide +kernel) ?_
      exact hIret hx hb hr9 hlocks hP hK hD hS dL_costByCostumes_14
    have hq := List.mem_singleton.mp hq
    subst hq
    refine vx_catch hown [⟨0, 9, 12, 13⟩] ⟨0, 9, 15, 15⟩ [] htab (hpc (.inr ⟨by decide, xEx 3, hts _ qcx_L_13, hX 3 2 (by decide) (by decide) (by decide)⟩) hp0) (by decide) (by decide) (hts _ qcx_L_15) (hN.use qca_4) hc1 hc2 hc3 ?_
    refine lv_astore_n (lv' := [(3, .ref q9), (0, .ref (h0 0)), (1, .int a1), (2, .ref o)]) hx hb dL_costByCostumes_15 rfl hl (by decide) rfl (fun ls hl => ?_)
    refine lv_iconst (v := iI (lawC [3, 4] 4 : Int)) hx hb dL_costByCostumes_16 (by decide +kernel) ?_
    exact hIret hx hb hr9 hlocks hP hK hD hS dL_costByCostumes_17
  · subst hk
    refine lv_i2l (v := v.toInt64) hx hb dL_costByCostumes_7 rfl ?_
    refine xLast (w2 := fun zz => HW cA ad hr h0 o od zz g s0 s1) hx hb hK hP hD hS 0 2 rfl rfl (x_lit (n := 1) (k := 0) (by decide)) (fun _ => rfl) dL_costByCostumes_8 (fun g9 eg9 H locs hP hD hS => ?_)
    subst eg9
    refine lv_goto (tgt := 18) hx hb dL_costByCostumes_9 (by decide) ?_
    refine lv_iconst (v := iI (lawC [3, 4] 0 : Int)) hx hb dL_costByCostumes_18 (by decide +kernel) ?_
    exact hIret hx hb hr9 hlocks hP hK hD hS dL_costByCostumes_19
set_option maxRecDepth 100000 in
set_option maxHeartbeats 4000000 in
theorem h_meanPrice (l : Launch) (hl9 : l.stackTraces = false) (D : va_G) (cA : Nat → ClassId) (ad : Nat → Nat) (hr : Nat → Nat → Nat) (h0 : Nat → Nat) (o od sz N : Nat) (f : Nat → Int64) (g : Nat → UInt64) (s0 : ThlS) (s1 : Nat → BooS) (k : Nat) (v : UInt64) (h : fX12_meanPrice N s0 = some (k, v)) (hq : k = 0 ∨ k ∈ ([6] : List Nat)) : hM l yL_meanPrice cL_meanPrice 3 hh_meanPrice ({ frames := 7, cells := 1, slots := 6, locals := 111 }) D cA ad (HW cA ad hr h0 o od f g s0 s1) sz [.ref (h0 0), .ref od] (some (.int (iI (lawC [6] k : Int)))) (HW cA ad hr h0 o od f (fD k g v) s0 s1) 1 6 := by
  generalize erm : ({ frames := 7, cells := 1, slots := 6, locals := 111 } : Room) = rm
  refine hMet (by decide) (Nat.le_of_ble_eq_true rfl) ?_
  intro p e s m below meth c hx hb hr9 hlocks hml hts hown hK hP A eA hD hS hA hsz hN hE hV hX htab ls hl
  have hl : lv_has ls 3 [(0, .ref (h0 0)), (1, .ref od)] := hl
  clear eA
  refine lv_aload_n hx hb dL_meanPrice_0 rfl (lv_at hl 1 rfl) ?_
  refine lv_iconst (v := 0) hx hb dL_meanPrice_1 (by decide) ?_
  refine lv_aload_n hx hb dL_meanPrice_2 rfl (lv_at hl 0 rfl) ?_
  refine vCall (w2 := HW cA ad hr h0 o od f g s0 s1) (vRunV (n := 0) (As := []) (rest := [.int 0, .ref od]) ⟨hx, hb, hml, hown, hts⟩ (kX12_meanPrice l hl9 D cA ad hr h0 _ N  s0 (k, v) h) qco_X12_meanPrice qml_L_117 qin_X12_meanPrice qse_X12_meanPrice qini_X12 (by decide +kernel) (by rw [← erm]; rfl) hN hE hV hS hA hK hP hD (mid 2 61) (mid_C (A := HA cA o od f g) (B := ThlW cA ad hr h0 s0) (C := RowW cA hr s1) rfl rfl) (mid_nd _ _) (q0 := 0) rfl rfl rfl rfl rfl hl.1 rfl (lv_room (Nat.le_of_ble_eq_true rfl)) dL_meanPrice_3 ⟨(by rw [← erm]; exact Nat.le_of_ble_eq_true rfl), (by rw [← erm]; exact Nat.le_of_ble_eq_true rfl)⟩) hP hD hS hA (mid 2 61) (mid_C (A := HA cA o od f g) (B := ThlW cA ad hr h0 s0) (C := RowW cA hr s1) rfl rfl) rfl (mid_H (A := HA cA o od f g) (B := ThlW cA ad hr h0 s0) (B' := ThlW cA ad hr h0 s0) (C := RowW cA hr s1) rfl rfl rfl) (fun hne q9 ce H locs hP hD hS hc1 hc2 hc3 => ?_) (fun hk H locs hP hD hS => ?_)
  · rcases hq with hq | hq
    · exact absurd hq hne
    have hq := List.mem_singleton.mp hq
    subst hq
    refine vx_catch hown [] ⟨0, 7, 10, 121⟩ [] htab hp0 (by decide) (by decide) (hts _ qcx_L_121) (hN.use qca_6) hc1 hc2 hc3 ?_
    refine lv_astore_n (lv' := [(2, .ref q9), (0, .ref (h0 0)), (1, .ref od)]) hx hb dL_meanPrice_10 rfl hl (by decide) rfl (fun ls hl => ?_)
    refine lv_iconst (v := iI (lawC [6] 6 : Int)) hx hb dL_meanPrice_11 (by decide +kernel) ?_
    exact hIret hx hb hr9 hlocks hP hK hD hS dL_meanPrice_12
  · subst hk
    refine va_dast hx hb hK hP hD hS 1 6 rfl rfl (x_lit (n := 1) (k := 0) (by decide)).1 dL_meanPrice_6 (fun H locs hP hD hS => ?_)
    rw [show ((0 : Int32)).toNatClampNeg = 0 from rfl] at hP hD
    refine lv_goto (tgt := 13) hx hb dL_meanPrice_7 (by decide) ?_
    refine lv_iconst (v := iI (lawC [6] 0 : Int)) hx hb dL_meanPrice_13 (by decide +kernel) ?_
    exact hIret hx hb hr9 hlocks hP hK hD hS dL_meanPrice_14
set_option maxRecDepth 100000 in
set_option maxHeartbeats 4000000 in
theorem h_billAt (l : Launch) (hl9 : l.stackTraces = false) (D : va_G) (cA : Nat → ClassId) (ad : Nat → Nat) (hr : Nat → Nat → Nat) (h0 : Nat → Nat) (o od sz N : Nat) (a1 : Int32) (f : Nat → Int64) (g : Nat → UInt64) (s0 : ThlS) (s1 : Nat → BooS) (k : Nat) (v : Int32) (h : fX12_billAt N a1 s0 = some (k, v)) (hq : k = 0 ∨ k ∈ ([2] : List Nat)) : hM l yL_billAt cL_billAt 4 hh_billAt ({ frames := 7, cells := 1, slots := 6, locals := 111 }) D cA ad (HW cA ad hr h0 o od f g s0 s1) sz [.ref (h0 0), .int a1, .ref o] (some (.int (iI (lawC [2] k : Int)))) (HW cA ad hr h0 o od (fU k f v.toInt64) g s0 s1) 1 6 := by
  generalize erm : ({ frames := 7, cells := 1, slots := 6, locals := 111 } : Room) = rm
  refine hMet (by decide) (Nat.le_of_ble_eq_true rfl) ?_
  intro p e s m below meth c hx hb hr9 hlocks hml hts hown hK hP A eA hD hS hA hsz hN hE hV hX htab ls hl
  have hl : lv_has ls 4 [(0, .ref (h0 0)), (1, .int a1), (2, .ref o)] := hl
  clear eA
  refine lv_aload_n hx hb dL_billAt_0 rfl (lv_at hl 2 rfl) ?_
  refine lv_iconst (v := 0) hx hb dL_billAt_1 (by decide) ?_
  refine lv_aload_n hx hb dL_billAt_2 rfl (lv_at hl 0 rfl) ?_
  refine lv_iload_n hx hb dL_billAt_3 rfl (lv_at hl 1 rfl) ?_
  refine vCall (w2 := HW cA ad hr h0 o od f g s0 s1) (vRunV (n := 1) (As := [.int a1]) (rest := [.int 0, .ref o]) ⟨hx, hb, hml, hown, hts⟩ (kX12_billAt l hl9 D cA ad hr h0 _ N a1 s0 (k, v) h) qco_X12_billAt qml_L_123 qin_X12_billAt qse_X12_billAt qini_X12 (by decide +kernel) (by rw [← erm]; rfl) hN hE hV hS hA hK hP hD (mid 2 61) (mid_C (A := HA cA o od f g) (B := ThlW cA ad hr h0 s0) (C := RowW cA hr s1) rfl rfl) (mid_nd _ _) (q0 := 0) rfl rfl rfl rfl rfl hl.1 rfl (lv_room (Nat.le_of_ble_eq_true rfl)) dL_billAt_4 ⟨(by rw [← erm]; exact Nat.le_of_ble_eq_true rfl), (by rw [← erm]; exact Nat.le_of_ble_eq_true rfl)⟩) hP hD hS hA (mid 2 61) (mid_C (A := HA cA o od f g) (B := ThlW cA ad hr h0 s0) (C := RowW cA hr s1) rfl rfl) rfl (mid_H (A := HA cA o od f g) (B := ThlW cA ad hr h0 s0) (B' := ThlW cA ad hr h0 s0) (C := RowW cA hr s1) rfl rfl rfl) (fun hne q9 ce H locs hP hD hS hc1 hc2 hc3 => ?_) (fun hk H locs hP hD hS => ?_)
  · rcases hq with hq | hq
    · exact absurd hq hne
    have hq := List.mem_singleton.mp hq
    subst hq
    refine vx_catch hown [] ⟨0, 9, 12, 30⟩ [] htab hp0 (by decide) (by decide) (hts _ qcx_L_30) (hN.use qca_2) hc1 hc2 hc3 ?_
    refine lv_astore_n (lv' := [(3, .ref q9), (0, .ref (h0 0)), (1, .int a1), (2, .ref o)]) hx hb dL_billAt_12 rfl hl (by decide) rfl (fun ls hl => ?_)
    refine lv_iconst (v := iI (lawC [2] 2 : Int)) hx hb dL_billAt_13 (by decide +kernel) ?_
    exact hIret hx hb hr9 hlocks hP hK hD hS dL_billAt_14
  · subst hk
    refine lv_i2l (v := v.toInt64) hx hb dL_billAt_7 rfl ?_
    refine xLast (w2 := fun zz => HW cA ad hr h0 o od zz g s0 s1) hx hb hK hP hD hS 0 2 rfl rfl (x_lit (n := 1) (k := 0) (by decide)) (fun _ => rfl) dL_billAt_8 (fun g9 eg9 H locs hP hD hS => ?_)
    subst eg9
    refine lv_goto (tgt := 15) hx hb dL_billAt_9 (by decide) ?_
    refine lv_iconst (v := iI (lawC [2] 0 : Int)) hx hb dL_billAt_15 (by decide +kernel) ?_
    exact hIret hx hb hr9 hlocks hP hK hD hS dL_billAt_16
set_option maxRecDepth 100000 in
set_option maxHeartbeats 4000000 in
theorem h_openAmount (l : Launch) (hl9 : l.stackTraces = false) (D : va_G) (cA : Nat → ClassId) (ad : Nat → Nat) (hr : Nat → Nat → Nat) (h0 : Nat → Nat) (o od sz N : Nat) (a1 : Int32) (f : Nat → Int64) (g : Nat → UInt64) (s0 : ThlS) (s1 : Nat → BooS) (k : Nat) (v : Int32) (h : fX12_openAmount N a1 s0 = some (k, v)) (hq : k = 0 ∨ k ∈ ([2] : List Nat)) : hM l yL_openAmount cL_openAmount 4 hh_openAmount ({ frames := 8, cells := 1, slots := 6, locals := 134 }) D cA ad (HW cA ad hr h0 o od f g s0 s1) sz [.ref (h0 0), .int a1, .ref o] (some (.int (iI (lawC [2] k : Int)))) (HW cA ad hr h0 o od (fU k f v.toInt64) g s0 s1) 1 6 := by
  generalize erm : ({ frames := 8, cells := 1, slots := 6, locals := 134 } : Room) = rm
  refine hMet (by decide) (Nat.le_of_ble_eq_true rfl) ?_
  intro p e s m below meth c hx hb hr9 hlocks hml hts hown hK hP A eA hD hS hA hsz hN hE hV hX htab ls hl
  have hl : lv_has ls 4 [(0, .ref (h0 0)), (1, .int a1), (2, .ref o)] := hl
  clear eA
  refine lv_aload_n hx hb dL_openAmount_0 rfl (lv_at hl 2 rfl) ?_
  refine lv_iconst (v := 0) hx hb dL_openAmount_1 (by decide) ?_
  refine lv_aload_n hx hb dL_openAmount_2 rfl (lv_at hl 0 rfl) ?_
  refine lv_iload_n hx hb dL_openAmount_3 rfl (lv_at hl 1 rfl) ?_
  refine vCall (w2 := HW cA ad hr h0 o od f g s0 s1) (vRunV (n := 1) (As := [.int a1]) (rest := [.int 0, .ref o]) ⟨hx, hb, hml, hown, hts⟩ (kX12_openAmount l hl9 D cA ad hr h0 _ N a1 s0 (k, v) h) qco_X12_openAmount qml_L_126 qin_X12_openAmount qse_X12_openAmount qini_X12 (by decide +kernel) (by rw [← erm]; rfl) hN hE hV hS hA hK hP hD (mid 2 61) (mid_C (A := HA cA o od f g) (B := ThlW cA ad hr h0 s0) (C := RowW cA hr s1) rfl rfl) (mid_nd _ _) (q0 := 0) rfl rfl rfl rfl rfl hl.1 rfl (lv_room (Nat.le_of_ble_eq_true rfl)) dL_openAmount_4 ⟨(by rw [← erm]; exact Nat.le_of_ble_eq_true rfl), (by rw [← erm]; exact Nat.le_of_ble_eq_true rfl)⟩) hP hD hS hA (mid 2 61) (mid_C (A := HA cA o od f g) (B := ThlW cA ad hr h0 s0) (C := RowW cA hr s1) rfl rfl) rfl (mid_H (A := HA cA o od f g) (B := ThlW cA ad hr h0 s0) (B' := ThlW cA ad hr h0 s0) (C := RowW cA hr s1) rfl rfl rfl) (fun hne q9 ce H locs hP hD hS hc1 hc2 hc3 => ?_) (fun hk H locs hP hD hS => ?_)
  · rcases hq with hq | hq
    · exact absurd hq hne
    have hq := List.mem_singleton.mp hq
    subst hq
    refine vx_catch hown [] ⟨0, 9, 12, 30⟩ [] htab hp0 (by decide) (by decide) (hts _ qcx_L_30) (hN.use qca_2) hc1 hc2 hc3 ?_
    refine lv_astore_n (lv' := [(3, .ref q9), (0, .ref (h0 0)), (1, .int a1), (2, .ref o)]) hx hb dL_openAmount_12 rfl hl (by decide) rfl (fun ls hl => ?_)
    refine lv_iconst (v := iI (lawC [2] 2 : Int)) hx hb dL_openAmount_13 (by decide +kernel) ?_
    exact hIret hx hb hr9 hlocks hP hK hD hS dL_openAmount_14
  · subst hk
    refine lv_i2l (v := v.toInt64) hx hb dL_openAmount_7 rfl ?_
    refine xLast (w2 := fun zz => HW cA ad hr h0 o od zz g s0 s1) hx hb hK hP hD hS 0 2 rfl rfl (x_lit (n := 1) (k := 0) (by decide)) (fun _ => rfl) dL_openAmount_8 (fun g9 eg9 H locs hP hD hS => ?_)
    subst eg9
    refine lv_goto (tgt := 15) hx hb dL_openAmount_9 (by decide) ?_
    refine lv_iconst (v := iI (lawC [2] 0 : Int)) hx hb dL_openAmount_15 (by decide +kernel) ?_
    exact hIret hx hb hr9 hlocks hP hK hD hS dL_openAmount_16
set_option maxRecDepth 100000 in
set_option maxHeartbeats 4000000 in
theorem h_isMatched (l : Launch) (hl9 : l.stackTraces = false) (D : va_G) (cA : Nat → ClassId) (ad : Nat → Nat) (hr : Nat → Nat → Nat) (h0 : Nat → Nat) (o od sz N : Nat) (a1 : Int32) (f : Nat → Int64) (g : Nat → UInt64) (s0 : ThlS) (s1 : Nat → BooS) (k : Nat) (v : Int32) (t9 : ThlS) (h : fX12_isMatched N a1 s0 = some (k, v, t9)) (hq : k = 0 ∨ k ∈ ([3] : List Nat)) : hM l yL_isMatched cL_isMatched 4 hh_isMatched ({ frames := 8, cells := 1, slots := 6, locals := 131 }) D cA ad (HW cA ad hr h0 o od f g s0 s1) sz [.ref (h0 0), .int a1, .ref o] (some (.int (iI (lawC [3] k : Int)))) (HW cA ad hr h0 o od (fU k f (hB v)) g t9 s1) 1 6 := by
  generalize erm : ({ frames := 8, cells := 1, slots := 6, locals := 131 } : Room) = rm
  refine hMet (by decide) (Nat.le_of_ble_eq_true rfl) ?_
  intro p e s m below meth c hx hb hr9 hlocks hml hts hown hK hP A eA hD hS hA hsz hN hE hV hX htab ls hl
  have hl : lv_has ls 4 [(0, .ref (h0 0)), (1, .int a1), (2, .ref o)] := hl
  clear eA
  refine lv_aload_n hx hb dL_isMatched_0 rfl (lv_at hl 2 rfl) ?_
  refine lv_iconst (v := 0) hx hb dL_isMatched_1 (by decide) ?_
  refine lv_aload_n hx hb dL_isMatched_2 rfl (lv_at hl 0 rfl) ?_
  refine lv_iload_n hx hb dL_isMatched_3 rfl (lv_at hl 1 rfl) ?_
  refine vCall (w2 := HW cA ad hr h0 o od f g t9 s1) (vRunV (n := 1) (As := [.int a1]) (rest := [.int 0, .ref o]) ⟨hx, hb, hml, hown, hts⟩ (kX12_isMatched l hl9 D cA ad hr h0 _ N a1 s0 (k, v, t9) h) qco_X12_isMatched qml_L_129 qin_X12_isMatched qse_X12_isMatched qini_X12 (by decide +kernel) (by rw [← erm]; rfl) hN hE hV hS hA hK hP hD (mid 2 61) (mid_C (A := HA cA o od f g) (B := ThlW cA ad hr h0 s0) (C := RowW cA hr s1) rfl rfl) (mid_nd _ _) (q0 := 0) rfl rfl rfl rfl rfl hl.1 rfl (lv_room (Nat.le_of_ble_eq_true rfl)) dL_isMatched_4 ⟨(by rw [← erm]; exact Nat.le_of_ble_eq_true rfl), (by rw [← erm]; exact Nat.le_of_ble_eq_true rfl)⟩) hP hD hS hA (mid 2 61) (mid_C (A := HA cA o od f g) (B := ThlW cA ad hr h0 s0) (C := RowW cA hr s1) rfl rfl) rfl (mid_H (A := HA cA o od f g) (B := ThlW cA ad hr h0 s0) (B' := ThlW cA ad hr h0 t9) (C := RowW cA hr s1) rfl rfl rfl) (fun hne q9 ce H locs hP hD hS hc1 hc2 hc3 => ?_) (fun hk H locs hP hD hS => ?_)
  · rcases hq with hq | hq
    · exact absurd hq hne
    have hq := List.mem_singleton.mp hq
    subst hq
    refine vx_catch hown [] ⟨0, 16, 19, 13⟩ [] htab hp0 (by decide) (by decide) (hts _ qcx_L_13) (hN.use qca_3) hc1 hc2 hc3 ?_
    refine lv_astore_n (lv' := [(3, .ref q9), (0, .ref (h0 0)), (1, .int a1), (2, .ref o)]) hx hb dL_isMatched_19 rfl hl (by decide) rfl (fun ls hl => ?_)
    refine lv_iconst (v := iI (lawC [3] 3 : Int)) hx hb dL_isMatched_20 (by decide +kernel) ?_
    exact hIret hx hb hr9 hlocks hP hK hD hS dL_isMatched_21
  · subst hk
    refine lv_if_eq (tgt := 14) hx hb dL_isMatched_7 (by decide) (fun c0 => ?_) (fun c0 => ?_)
    · refine lv_lconst (v := hB v) hx hb dL_isMatched_14 (by rw [hB, if_pos c0]; decide) ?_
      refine xLast (w2 := fun zz => HW cA ad hr h0 o od zz g t9 s1) hx hb hK hP hD hS 0 2 rfl rfl (x_lit (n := 1) (k := 0) (by decide)) (fun _ => rfl) dL_isMatched_15 (fun g9 eg9 H locs hP hD hS => ?_)
      subst eg9
      refine lv_goto (tgt := 22) hx hb dL_isMatched_16 (by decide) ?_
      refine lv_iconst (v := iI (lawC [3] 0 : Int)) hx hb dL_isMatched_22 (by decide +kernel) ?_
      exact hIret hx hb hr9 hlocks hP hK hD hS dL_isMatched_23
    · refine lv_lconst (v := hB v) hx hb dL_isMatched_10 (by rw [hB, if_neg c0]; decide) ?_
      refine lv_goto (tgt := 15) hx hb dL_isMatched_11 (by decide) ?_
      refine xLast (w2 := fun zz => HW cA ad hr h0 o od zz g t9 s1) hx hb hK hP hD hS 0 2 rfl rfl (x_lit (n := 1) (k := 0) (by decide)) (fun _ => rfl) dL_isMatched_15 (fun g9 eg9 H locs hP hD hS => ?_)
      subst eg9
      refine lv_goto (tgt := 22) hx hb dL_isMatched_16 (by decide) ?_
      refine lv_iconst (v := iI (lawC [3] 0 : Int)) hx hb dL_isMatched_22 (by decide +kernel) ?_
      exact hIret hx hb hr9 hlocks hP hK hD hS dL_isMatched_23
set_option maxRecDepth 100000 in
set_option maxHeartbeats 4000000 in
theorem h_isMatchedBySets (l : Launch) (hl9 : l.stackTraces = false) (D : va_G) (cA : Nat → ClassId) (ad : Nat → Nat) (hr : Nat → Nat → Nat) (h0 : Nat → Nat) (o od sz N : Nat) (a1 : Int32) (f : Nat → Int64) (g : Nat → UInt64) (s0 : ThlS) (s1 : Nat → BooS) (k : Nat) (v : Int32) (t9 : ThlS) (h : fX12_isMatchedBySets N a1 s0 = some (k, v, t9)) (hq : k = 0 ∨ k ∈ ([3] : List Nat)) : hM l yL_isMatchedBySets cL_isMatchedBySets 4 hh_isMatchedBySets ({ frames := 8, cells := 1, slots := 6, locals := 131 }) D cA ad (HW cA ad hr h0 o od f g s0 s1) sz [.ref (h0 0), .int a1, .ref o] (some (.int (iI (lawC [3] k : Int)))) (HW cA ad hr h0 o od (fU k f (hB v)) g t9 s1) 1 6 := by
  generalize erm : ({ frames := 8, cells := 1, slots := 6, locals := 131 } : Room) = rm
  refine hMet (by decide) (Nat.le_of_ble_eq_true rfl) ?_
  intro p e s m below meth c hx hb hr9 hlocks hml hts hown hK hP A eA hD hS hA hsz hN hE hV hX htab ls hl
  have hl : lv_has ls 4 [(0, .ref (h0 0)), (1, .int a1), (2, .ref o)] := hl
  clear eA
  refine lv_aload_n hx hb dL_isMatchedBySets_0 rfl (lv_at hl 2 rfl) ?_
  refine lv_iconst (v := 0) hx hb dL_isMatchedBySets_1 (by decide) ?_
  refine lv_aload_n hx hb dL_isMatchedBySets_2 rfl (lv_at hl 0 rfl) ?_
  refine lv_iload_n hx hb dL_isMatchedBySets_3 rfl (lv_at hl 1 rfl) ?_
  refine vCall (w2 := HW cA ad hr h0 o od f g t9 s1) (vRunV (n := 1) (As := [.int a1]) (rest := [.int 0, .ref o]) ⟨hx, hb, hml, hown, hts⟩ (kX12_isMatchedBySets l hl9 D cA ad hr h0 _ N a1 s0 (k, v, t9) h) qco_X12_isMatchedBySets qml_L_132 qin_X12_isMatchedBySets qse_X12_isMatchedBySets qini_X12 (by decide +kernel) (by rw [← erm]; rfl) hN hE hV hS hA hK hP hD (mid 2 61) (mid_C (A := HA cA o od f g) (B := ThlW cA ad hr h0 s0) (C := RowW cA hr s1) rfl rfl) (mid_nd _ _) (q0 := 0) rfl rfl rfl rfl rfl hl.1 rfl (lv_room (Nat.le_of_ble_eq_true rfl)) dL_isMatchedBySets_4 ⟨(by rw [← erm]; exact Nat.le_of_ble_eq_true rfl), (by rw [← erm]; exact Nat.le_of_ble_eq_true rfl)⟩) hP hD hS hA (mid 2 61) (mid_C (A := HA cA o od f g) (B := ThlW cA ad hr h0 s0) (C := RowW cA hr s1) rfl rfl) rfl (mid_H (A := HA cA o od f g) (B := ThlW cA ad hr h0 s0) (B' := ThlW cA ad hr h0 t9) (C := RowW cA hr s1) rfl rfl rfl) (fun hne q9 ce H locs hP hD hS hc1 hc2 hc3 => ?_) (fun hk H locs hP hD hS => ?_)
  · rcases hq with hq | hq
    · exact absurd hq hne
    have hq := List.mem_singleton.mp hq
    subst hq
    refine vx_catch hown [] ⟨0, 16, 19, 13⟩ [] htab hp0 (by decide) (by decide) (hts _ qcx_L_13) (hN.use qca_3) hc1 hc2 hc3 ?_
    refine lv_astore_n (lv' := [(3, .ref q9), (0, .ref (h0 0)), (1, .int a1), (2, .ref o)]) hx hb dL_isMatchedBySets_19 rfl hl (by decide) rfl (fun ls hl => ?_)
    refine lv_iconst (v := iI (lawC [3] 3 : Int)) hx hb dL_isMatchedBySets_20 (by decide +kernel) ?_
    exact hIret hx hb hr9 hlocks hP hK hD hS dL_isMatchedBySets_21
  · subst hk
    refine lv_if_eq (tgt := 14) hx hb dL_isMatchedBySets_7 (by decide) (fun c0 => ?_) (fun c0 => ?_)
    · refine lv_lconst (v := hB v) hx hb dL_isMatchedBySets_14 (by rw [hB, if_pos c0]; decide) ?_
      refine xLast (w2 := fun zz => HW cA ad hr h0 o od zz g t9 s1) hx hb hK hP hD hS 0 2 rfl rfl (x_lit (n := 1) (k := 0) (by decide)) (fun _ => rfl) dL_isMatchedBySets_15 (fun g9 eg9 H locs hP hD hS => ?_)
      subst eg9
      refine lv_goto (tgt := 22) hx hb dL_isMatchedBySets_16 (by decide) ?_
      refine lv_iconst (v := iI (lawC [3] 0 : Int)) hx hb dL_isMatchedBySets_22 (by decide +kernel) ?_
      exact hIret hx hb hr9 hlocks hP hK hD hS dL_isMatchedBySets_23
    · refine lv_lconst (v := hB v) hx hb dL_isMatchedBySets_10 (by rw [hB, if_neg c0]; decide) ?_
      refine lv_goto (tgt := 15) hx hb dL_isMatchedBySets_11 (by decide) ?_
      refine xLast (w2 := fun zz => HW cA ad hr h0 o od zz g t9 s1) hx hb hK hP hD hS 0 2 rfl rfl (x_lit (n := 1) (k := 0) (by decide)) (fun _ => rfl) dL_isMatchedBySets_15 (fun g9 eg9 H locs hP hD hS => ?_)
      subst eg9
      refine lv_goto (tgt := 22) hx hb dL_isMatchedBySets_16 (by decide) ?_
      refine lv_iconst (v := iI (lawC [3] 0 : Int)) hx hb dL_isMatchedBySets_22 (by decide +kernel) ?_
      exact hIret hx hb hr9 hlocks hP hK hD hS dL_isMatchedBySets_23
set_option maxRecDepth 100000 in
set_option maxHeartbeats 4000000 in
theorem h_matchSize (l : Launch) (hl9 : l.stackTraces = false) (D : va_G) (cA : Nat → ClassId) (ad : Nat → Nat) (hr : Nat → Nat → Nat) (h0 : Nat → Nat) (o od sz N : Nat) (a1 : Int32) (f : Nat → Int64) (g : Nat → UInt64) (s0 : ThlS) (s1 : Nat → BooS) (k : Nat) (v : Int32) (t9 : ThlS) (h : fX12_matchSize N a1 s0 = some (k, v, t9)) (hq : k = 0 ∨ k ∈ ([3, 2] : List Nat)) : hM l yL_matchSize cL_matchSize 4 hh_matchSize ({ frames := 8, cells := 2, slots := 12, locals := 132 }) D cA ad (HW cA ad hr h0 o od f g s0 s1) sz [.ref (h0 0), .int a1, .ref o] (some (.int (iI (lawC [3, 2] k : Int)))) (HW cA ad hr h0 o od (fU k f v.toInt64) g t9 s1) 2 12 := by
  generalize erm : ({ frames := 8, cells := 2, slots := 12, locals := 132 } : Room) = rm
  refine hMet (by decide) (Nat.le_of_ble_eq_true rfl) ?_
  intro p e s m below meth c hx hb hr9 hlocks hml hts hown hK hP A eA hD hS hA hsz hN hE hV hX htab ls hl
  have hl : lv_has ls 4 [(0, .ref (h0 0)), (1, .int a1), (2, .ref o)] := hl
  clear eA
  refine lv_aload_n hx hb dL_matchSize_0 rfl (lv_at hl 2 rfl) ?_
  refine lv_iconst (v := 0) hx hb dL_matchSize_1 (by decide) ?_
  refine lv_aload_n hx hb dL_matchSize_2 rfl (lv_at hl 0 rfl) ?_
  refine lv_iload_n hx hb dL_matchSize_3 rfl (lv_at hl 1 rfl) ?_
  refine vCall (w2 := HW cA ad hr h0 o od f g t9 s1) (vRunV (n := 1) (As := [.int a1]) (rest := [.int 0, .ref o]) ⟨hx, hb, hml, hown, hts⟩ (kX12_matchSize l hl9 D cA ad hr h0 _ N a1 s0 (k, v, t9) h) qco_X12_matchSize qml_L_135 qin_X12_matchSize qse_X12_matchSize qini_X12 (by decide +kernel) (by rw [← erm]; rfl) hN hE hV hS hA hK hP hD (mid 2 61) (mid_C (A := HA cA o od f g) (B := ThlW cA ad hr h0 s0) (C := RowW cA hr s1) rfl rfl) (mid_nd _ _) (q0 := 0) rfl rfl rfl rfl rfl hl.1 rfl (lv_room (Nat.le_of_ble_eq_true rfl)) dL_matchSize_4 ⟨(by rw [← erm]; exact Nat.le_of_ble_eq_true rfl), (by rw [← erm]; exact Nat.le_of_ble_eq_true rfl)⟩) hP hD hS hA (mid 2 61) (mid_C (A := HA cA o od f g) (B := ThlW cA ad hr h0 s0) (C := RowW cA hr s1) rfl rfl) rfl (mid_H (A := HA cA o od f g) (B := ThlW cA ad hr h0 s0) (B' := ThlW cA ad hr h0 t9) (C := RowW cA hr s1) rfl rfl rfl) (fun hne q9 ce H locs hP hD hS hc1 hc2 hc3 => ?_) (fun hk H locs hP hD hS => ?_)
  · rcases hq with hq | hq
    · exact absurd hq hne
    rcases List.mem_cons.mp hq with hq | hq
    · subst hq
      refine vx_catch hown [] ⟨0, 9, 12, 13⟩ [⟨0, 9, 15, 30⟩] htab hp0 (by decide) (by decide) (hts _ qcx_L_13) (hN.use qca_3) hc1 hc2 hc3 ?_
      refine lv_astore_n (lv' := [(3, .ref q9), (0, .ref (h0 0)), (1, .int a1), (2, .ref o)]) hx hb dL_matchSize_12 rfl hl (by decide) rfl (fun ls hl => ?_)
      refine lv_iconst (v := iI (lawC [3, 2] 3 : Int)) hx hb dL_matchSize_13 (by decide +kernel) ?_
      exact hIret hx hb hr9 hlocks hP hK hD hS dL_matchSize_14
    have hq := List.mem_singleton.mp hq
    subst hq
    refine vx_catch hown [⟨0, 9, 12, 13⟩] ⟨0, 9, 15, 30⟩ [] htab (hpc (.inr ⟨by decide, xEx 3, hts _ qcx_L_13, hX 1 2 (by decide) (by decide) (by decide)⟩) hp0) (by decide) (by decide) (hts _ qcx_L_30) (hN.use qca_2) hc1 hc2 hc3 ?_
    refine lv_astore_n (lv' := [(3, .ref q9), (0, .ref (h0 0)), (1, .int a1), (2, .ref o)]) hx hb dL_matchSize_15 rfl hl (by decide) rfl (fun ls hl => ?_)
    refine lv_iconst (v := iI (lawC [3, 2] 2 : Int)) hx hb dL_matchSize_16 (by decide +kernel) ?_
    exact hIret hx hb hr9 hlocks hP hK hD hS dL_matchSize_17
  · subst hk
    refine lv_i2l (v := v.toInt64) hx hb dL_matchSize_7 rfl ?_
    refine xLast (w2 := fun zz => HW cA ad hr h0 o od zz g t9 s1) hx hb hK hP hD hS 0 2 rfl rfl (x_lit (n := 1) (k := 0) (by decide)) (fun _ => rfl) dL_matchSize_8 (fun g9 eg9 H locs hP hD hS => ?_)
    subst eg9
    refine lv_goto (tgt := 18) hx hb dL_matchSize_9 (by decide) ?_
    refine lv_iconst (v := iI (lawC [3, 2] 0 : Int)) hx hb dL_matchSize_18 (by decide +kernel) ?_
    exact hIret hx hb hr9 hlocks hP hK hD hS dL_matchSize_19
set_option maxRecDepth 100000 in
set_option maxHeartbeats 4000000 in
theorem h_isInMatch (l : Launch) (hl9 : l.stackTraces = false) (D : va_G) (cA : Nat → ClassId) (ad : Nat → Nat) (hr : Nat → Nat → Nat) (h0 : Nat → Nat) (o od sz N : Nat) (a1 : Int32) (a2 : Int32) (f : Nat → Int64) (g : Nat → UInt64) (s0 : ThlS) (s1 : Nat → BooS) (k : Nat) (v : Int32) (t9 : ThlS) (h : fX12_isInMatch N a1 a2 s0 = some (k, v, t9)) (hq : k = 0 ∨ k ∈ ([2, 3, 4] : List Nat)) : hM l yL_isInMatch cL_isInMatch 5 hh_isInMatch ({ frames := 8, cells := 3, slots := 18, locals := 136 }) D cA ad (HW cA ad hr h0 o od f g s0 s1) sz [.ref (h0 0), .int a1, .int a2, .ref o] (some (.int (iI (lawC [2, 3, 4] k : Int)))) (HW cA ad hr h0 o od (fU k f (hB v)) g t9 s1) 3 18 := by
  generalize erm : ({ frames := 8, cells := 3, slots := 18, locals := 136 } : Room) = rm
  refine hMet (by decide) (Nat.le_of_ble_eq_true rfl) ?_
  intro p e s m below meth c hx hb hr9 hlocks hml hts hown hK hP A eA hD hS hA hsz hN hE hV hX htab ls hl
  have hl : lv_has ls 5 [(0, .ref (h0 0)), (1, .int a1), (2, .int a2), (3, .ref o)] := hl
  clear eA
  refine lv_aload_n hx hb dL_isInMatch_0 rfl (lv_at hl 3 rfl) ?_
  refine lv_iconst (v := 0) hx hb dL_isInMatch_1 (by decide) ?_
  refine lv_aload_n hx hb dL_isInMatch_2 rfl (lv_at hl 0 rfl) ?_
  refine lv_iload_n hx hb dL_isInMatch_3 rfl (lv_at hl 1 rfl) ?_
  refine lv_iload_n hx hb dL_isInMatch_4 rfl (lv_at hl 2 rfl) ?_
  refine vCall (w2 := HW cA ad hr h0 o od f g t9 s1) (vRunV (n := 2) (As := [.int a1, .int a2]) (rest := [.int 0, .ref o]) ⟨hx, hb, hml, hown, hts⟩ (kX12_isInMatch l hl9 D cA ad hr h0 _ N a1 a2 s0 (k, v, t9) h) qco_X12_isInMatch qml_L_138 qin_X12_isInMatch qse_X12_isInMatch qini_X12 (by decide +kernel) (by rw [← erm]; rfl) hN hE hV hS hA hK hP hD (mid 2 61) (mid_C (A := HA cA o od f g) (B := ThlW cA ad hr h0 s0) (C := RowW cA hr s1) rfl rfl) (mid_nd _ _) (q0 := 0) rfl rfl rfl rfl rfl hl.1 rfl (lv_room (Nat.le_of_ble_eq_true rfl)) dL_isInMatch_5 ⟨(by rw [← erm]; exact Nat.le_of_ble_eq_true rfl), (by rw [← erm]; exact Nat.le_of_ble_eq_true rfl)⟩) hP hD hS hA (mid 2 61) (mid_C (A := HA cA o od f g) (B := ThlW cA ad hr h0 s0) (C := RowW cA hr s1) rfl rfl) rfl (mid_H (A := HA cA o od f g) (B := ThlW cA ad hr h0 s0) (B' := ThlW cA ad hr h0 t9) (C := RowW cA hr s1) rfl rfl rfl) (fun hne q9 ce H locs hP hD hS hc1 hc2 hc3 => ?_) (fun hk H locs hP hD hS => ?_)
  · rcases hq with hq | hq
    · exact absurd hq hne
    rcases List.mem_cons.mp hq with hq | hq
    · subst hq
      refine vx_catch hown [] ⟨0, 17, 20, 30⟩ [⟨0, 17, 24, 13⟩, ⟨0, 17, 28, 15⟩] htab hp0 (by decide) (by decide) (hts _ qcx_L_30) (hN.use qca_2) hc1 hc2 hc3 ?_
      refine lv_astore (lv' := [(4, .ref q9), (0, .ref (h0 0)), (1, .int a1), (2, .int a2), (3, .ref o)]) hx hb dL_isInMatch_20 hl (by decide) rfl (fun ls hl => ?_)
      refine lv_iconst (v := iI (lawC [2, 3, 4] 2 : Int)) hx hb dL_isInMatch_22 (by decide +kernel) ?_
      exact hIret hx hb hr9 hlocks hP hK hD hS dL_isInMatch_23
    rcases List.mem_cons.mp hq with hq | hq
    · subst hq
      refine vx_catch hown [⟨0, 17, 20, 30⟩] ⟨0, 17, 24, 13⟩ [⟨0, 17, 28, 15⟩] htab (hpc (.inr ⟨by decide, xEx 2, hts _ qcx_L_30, hX 2 1 (by decide) (by decide) (by decide)⟩) hp0) (by decide) (by decide) (hts _ qcx_L_13) (hN.use qca_3) hc1 hc2 hc3 ?_
      refine lv_astore (lv' := [(4, .ref q9), (0, .ref (h0 0)), (1, .int a1), (2, .int a2), (3, .ref o)]) hx hb dL_isInMatch_24 hl (by decide) rfl (fun ls hl => ?_)
      refine lv_iconst (v := iI (lawC [2, 3, 4] 3 : Int)) hx hb dL_isInMatch_26 (by decide +kernel) ?_
      exact hIret hx hb hr9 hlocks hP hK hD hS dL_isInMatch_27
    have hq := List.mem_singleton.mp hq
    subst hq
    refine vx_catch hown [⟨0, 17, 20, 30⟩, ⟨0, 17, 24, 13⟩] ⟨0, 17, 28, 15⟩ [] htab (hpc (.inr ⟨by decide, xEx 2, hts _ qcx_L_30, hX 3 1 (by decide) (by decide) (by decide)⟩) (hpc (.inr ⟨by decide, xEx 3, hts _ qcx_L_13, hX 3 2 (by decide) (by decide) (by decide)⟩) hp0)) (by decide) (by decide) (hts _ qcx_L_15) (hN.use qca_4) hc1 hc2 hc3 ?_
    refine lv_astore (lv' := [(4, .ref q9), (0, .ref (h0 0)), (1, .int a1), (2, .int a2), (3, .ref o)]) hx hb dL_isInMatch_28 hl (by decide) rfl (fun ls hl => ?_)
    refine lv_iconst (v := iI (lawC [2, 3, 4] 4 : Int)) hx hb dL_isInMatch_30 (by decide +kernel) ?_
    exact hIret hx hb hr9 hlocks hP hK hD hS dL_isInMatch_31
  · subst hk
    refine lv_if_eq (tgt := 15) hx hb dL_isInMatch_8 (by decide) (fun c0 => ?_) (fun c0 => ?_)
    · refine lv_lconst (v := hB v) hx hb dL_isInMatch_15 (by rw [hB, if_pos c0]; decide) ?_
      refine xLast (w2 := fun zz => HW cA ad hr h0 o od zz g t9 s1) hx hb hK hP hD hS 0 2 rfl rfl (x_lit (n := 1) (k := 0) (by decide)) (fun _ => rfl) dL_isInMatch_16 (fun g9 eg9 H locs hP hD hS => ?_)
      subst eg9
      refine lv_goto (tgt := 32) hx hb dL_isInMatch_17 (by decide) ?_
      refine lv_iconst (v := iI (lawC [2, 3, 4] 0 : Int)) hx hb dL_isInMatch_32 (by decide +kernel) ?_
      exact hIret hx hb hr9 hlocks hP hK hD hS dL_isInMatch_33
    · refine lv_lconst (v := hB v) hx hb dL_isInMatch_11 (by rw [hB, if_neg c0]; decide) ?_
      refine lv_goto (tgt := 16) hx hb dL_isInMatch_12 (by decide) ?_
      refine xLast (w2 := fun zz => HW cA ad hr h0 o od zz g t9 s1) hx hb hK hP hD hS 0 2 rfl rfl (x_lit (n := 1) (k := 0) (by decide)) (fun _ => rfl) dL_isInMatch_16 (fun g9 eg9 H locs hP hD hS => ?_)
      subst eg9
      refine lv_goto (tgt := 32) hx hb dL_isInMatch_17 (by decide) ?_
      refine lv_iconst (v := iI (lawC [2, 3, 4] 0 : Int)) hx hb dL_isInMatch_32 (by decide +kernel) ?_
      exact hIret hx hb hr9 hlocks hP hK hD hS dL_isInMatch_33
set_option maxRecDepth 100000 in
set_option maxHeartbeats 4000000 in
theorem h_accountByBalance (l : Launch) (hl9 : l.stackTraces = false) (D : va_G) (cA : Nat → ClassId) (ad : Nat → Nat) (hr : Nat → Nat → Nat) (h0 : Nat → Nat) (o od sz N : Nat) (a1 : Int32) (f : Nat → Int64) (g : Nat → UInt64) (s0 : ThlS) (s1 : Nat → BooS) (k : Nat) (v : Int32) (h : fX12_accountByBalance N a1 s0 = some (k, v)) (hq : k = 0 ∨ k ∈ ([2] : List Nat)) : hM l yL_accountByBalance cL_accountByBalance 4 hh_accountByBalance ({ frames := 7, cells := 1, slots := 6, locals := 111 }) D cA ad (HW cA ad hr h0 o od f g s0 s1) sz [.ref (h0 0), .int a1, .ref o] (some (.int (iI (lawC [2] k : Int)))) (HW cA ad hr h0 o od (fU k f v.toInt64) g s0 s1) 1 6 := by
  generalize erm : ({ frames := 7, cells := 1, slots := 6, locals := 111 } : Room) = rm
  refine hMet (by decide) (Nat.le_of_ble_eq_true rfl) ?_
  intro p e s m below meth c hx hb hr9 hlocks hml hts hown hK hP A eA hD hS hA hsz hN hE hV hX htab ls hl
  have hl : lv_has ls 4 [(0, .ref (h0 0)), (1, .int a1), (2, .ref o)] := hl
  clear eA
  refine lv_aload_n hx hb dL_accountByBalance_0 rfl (lv_at hl 2 rfl) ?_
  refine lv_iconst (v := 0) hx hb dL_accountByBalance_1 (by decide) ?_
  refine lv_aload_n hx hb dL_accountByBalance_2 rfl (lv_at hl 0 rfl) ?_
  refine lv_iload_n hx hb dL_accountByBalance_3 rfl (lv_at hl 1 rfl) ?_
  refine vCall (w2 := HW cA ad hr h0 o od f g s0 s1) (vRunV (n := 1) (As := [.int a1]) (rest := [.int 0, .ref o]) ⟨hx, hb, hml, hown, hts⟩ (kX12_accountByBalance l hl9 D cA ad hr h0 _ N a1 s0 (k, v) h) qco_X12_accountByBalance qml_L_142 qin_X12_accountByBalance qse_X12_accountByBalance qini_X12 (by decide +kernel) (by rw [← erm]; rfl) hN hE hV hS hA hK hP hD (mid 2 61) (mid_C (A := HA cA o od f g) (B := ThlW cA ad hr h0 s0) (C := RowW cA hr s1) rfl rfl) (mid_nd _ _) (q0 := 0) rfl rfl rfl rfl rfl hl.1 rfl (lv_room (Nat.le_of_ble_eq_true rfl)) dL_accountByBalance_4 ⟨(by rw [← erm]; exact Nat.le_of_ble_eq_true rfl), (by rw [← erm]; exact Nat.le_of_ble_eq_true rfl)⟩) hP hD hS hA (mid 2 61) (mid_C (A := HA cA o od f g) (B := ThlW cA ad hr h0 s0) (C := RowW cA hr s1) rfl rfl) rfl (mid_H (A := HA cA o od f g) (B := ThlW cA ad hr h0 s0) (B' := ThlW cA ad hr h0 s0) (C := RowW cA hr s1) rfl rfl rfl) (fun hne q9 ce H locs hP hD hS hc1 hc2 hc3 => ?_) (fun hk H locs hP hD hS => ?_)
  · rcases hq with hq | hq
    · exact absurd hq hne
    have hq := List.mem_singleton.mp hq
    subst hq
    refine vx_catch hown [] ⟨0, 9, 12, 30⟩ [] htab hp0 (by decide) (by decide) (hts _ qcx_L_30) (hN.use qca_2) hc1 hc2 hc3 ?_
    refine lv_astore_n (lv' := [(3, .ref q9), (0, .ref (h0 0)), (1, .int a1), (2, .ref o)]) hx hb dL_accountByBalance_12 rfl hl (by decide) rfl (fun ls hl => ?_)
    refine lv_iconst (v := iI (lawC [2] 2 : Int)) hx hb dL_accountByBalance_13 (by decide +kernel) ?_
    exact hIret hx hb hr9 hlocks hP hK hD hS dL_accountByBalance_14
  · subst hk
    refine lv_i2l (v := v.toInt64) hx hb dL_accountByBalance_7 rfl ?_
    refine xLast (w2 := fun zz => HW cA ad hr h0 o od zz g s0 s1) hx hb hK hP hD hS 0 2 rfl rfl (x_lit (n := 1) (k := 0) (by decide)) (fun _ => rfl) dL_accountByBalance_8 (fun g9 eg9 H locs hP hD hS => ?_)
    subst eg9
    refine lv_goto (tgt := 15) hx hb dL_accountByBalance_9 (by decide) ?_
    refine lv_iconst (v := iI (lawC [2] 0 : Int)) hx hb dL_accountByBalance_15 (by decide +kernel) ?_
    exact hIret hx hb hr9 hlocks hP hK hD hS dL_accountByBalance_16
