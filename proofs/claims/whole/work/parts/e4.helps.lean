/-! helpers -/
set_option maxRecDepth 100000 in
set_option maxHeartbeats 4000000 in
theorem h_claimShare (l : Launch) (hl9 : l.stackTraces = false) (D : va_G) (cA : Nat → ClassId) (ad : Nat → Nat) (hr : Nat → Nat → Nat) (h0 : Nat → Nat) (o od sz N : Nat) (f : Nat → Int64) (g : Nat → UInt64) (s0 : ThlS) (s1 : Nat → BooS) (k : Nat) (v : UInt32) (h : fX12_claimShare N s0 = some (k, v)) (hq : k = 0 ∨ k ∈ ([6] : List Nat)) (hn : k = 0 → FP.Core.dIsNaN (FP.f2d v) = false) : hM l yL_claimShare cL_claimShare 3 hh_claimShare ({ frames := 7, cells := 1, slots := 6, locals := 114 }) D cA ad (HW cA ad hr h0 o od f g s0 s1) sz [.ref (h0 0), .ref od] (some (.int (iI (lawC [6] k : Int)))) (HW cA ad hr h0 o od f (fD k g (FP.f2d v)) s0 s1) 1 6 := by
  generalize erm : ({ frames := 7, cells := 1, slots := 6, locals := 114 } : Room) = rm
  refine hMet (by decide) (Nat.le_of_ble_eq_true rfl) ?_
  intro p e s m below meth c hx hb hr9 hlocks hml hts hown hK hP A eA hD hS hA hsz hN hE hV hX htab ls hl
  have hl : lv_has ls 3 [(0, .ref (h0 0)), (1, .ref od)] := hl
  clear eA
  refine lv_aload_n hx hb dL_claimShare_0 rfl (lv_at hl 1 rfl) ?_
  refine lv_iconst (v := 0) hx hb dL_claimShare_1 (by decide) ?_
  refine lv_aload_n hx hb dL_claimShare_2 rfl (lv_at hl 0 rfl) ?_
  refine vCall (w2 := HW cA ad hr h0 o od f g s0 s1) (vRunV (n := 0) (As := []) (rest := [.int 0, .ref od]) ⟨hx, hb, hml, hown, hts⟩ (kX12_claimShare l hl9 D cA ad hr h0 _ N  s0 (k, v) h) qco_X12_claimShare qml_L_145 qin_X12_claimShare qse_X12_claimShare qini_X12 (by decide +kernel) (by rw [← erm]; rfl) hN hE hV hS hA hK hP hD (mid 2 61) (mid_C (A := HA cA o od f g) (B := ThlW cA ad hr h0 s0) (C := RowW cA hr s1) rfl rfl) (mid_nd _ _) (q0 := 0) rfl rfl rfl rfl rfl hl.1 rfl (lv_room (Nat.le_of_ble_eq_true rfl)) dL_claimShare_3 ⟨(by rw [← erm]; exact Nat.le_of_ble_eq_true rfl), (by rw [← erm]; exact Nat.le_of_ble_eq_true rfl)⟩) hP hD hS hA (mid 2 61) (mid_C (A := HA cA o od f g) (B := ThlW cA ad hr h0 s0) (C := RowW cA hr s1) rfl rfl) rfl (mid_H (A := HA cA o od f g) (B := ThlW cA ad hr h0 s0) (B' := ThlW cA ad hr h0 s0) (C := RowW cA hr s1) rfl rfl rfl) (fun hne q9 ce H locs hP hD hS hc1 hc2 hc3 => ?_) (fun hk H locs hP hD hS => ?_)
  · rcases hq with hq | hq
    · exact absurd hq hne
    have hq := List.mem_singleton.mp hq
    subst hq
    refine vx_catch hown [] ⟨0, 8, 11, 121⟩ [] htab hp0 (by decide) (by decide) (hts _ qcx_L_121) (hN.use qca_6) hc1 hc2 hc3 ?_
    refine lv_astore_n (lv' := [(2, .ref q9), (0, .ref (h0 0)), (1, .ref od)]) hx hb dL_claimShare_11 rfl hl (by decide) rfl (fun ls hl => ?_)
    refine lv_iconst (v := iI (lawC [6] 6 : Int)) hx hb dL_claimShare_12 (by decide +kernel) ?_
    exact hIret hx hb hr9 hlocks hP hK hD hS dL_claimShare_13
  · subst hk
    refine lv_f2d hx hb dL_claimShare_6 (vz64 (fz_d _ (hn rfl))) ?_
    refine va_dast hx hb hK hP hD hS 1 6 rfl rfl (x_lit (n := 1) (k := 0) (by decide)).1 dL_claimShare_7 (fun H locs hP hD hS => ?_)
    rw [show ((0 : Int32)).toNatClampNeg = 0 from rfl] at hP hD
    refine lv_goto (tgt := 14) hx hb dL_claimShare_8 (by decide) ?_
    refine lv_iconst (v := iI (lawC [6] 0 : Int)) hx hb dL_claimShare_14 (by decide +kernel) ?_
    exact hIret hx hb hr9 hlocks hP hK hD hS dL_claimShare_15
set_option maxRecDepth 100000 in
set_option maxHeartbeats 4000000 in
theorem h_feed (l : Launch) (hl9 : l.stackTraces = false) (D : va_G) (cA : Nat → ClassId) (ad : Nat → Nat) (hr : Nat → Nat → Nat) (h0 : Nat → Nat) (o od sz N : Nat) (a1 : Int32) (f : Nat → Int64) (g : Nat → UInt64) (s0 : ThlS) (s1 : Nat → BooS) (k : Nat) (v : Int32) (t9 : ThlS) (h : fX12_feed N a1 s0 = some (k, v, t9)) (hq : k = 0 ∨ k ∈ ([4] : List Nat)) : hM l yL_feed cL_feed 4 hh_feed ({ frames := 7, cells := 1, slots := 6, locals := 111 }) D cA ad (HW cA ad hr h0 o od f g s0 s1) sz [.ref (h0 0), .int a1, .ref o] (some (.int (iI (lawC [4] k : Int)))) (HW cA ad hr h0 o od (fU k f v.toInt64) g t9 s1) 1 6 := by
  generalize erm : ({ frames := 7, cells := 1, slots := 6, locals := 111 } : Room) = rm
  refine hMet (by decide) (Nat.le_of_ble_eq_true rfl) ?_
  intro p e s m below meth c hx hb hr9 hlocks hml hts hown hK hP A eA hD hS hA hsz hN hE hV hX htab ls hl
  have hl : lv_has ls 4 [(0, .ref (h0 0)), (1, .int a1), (2, .ref o)] := hl
  clear eA
  refine lv_aload_n hx hb dL_feed_0 rfl (lv_at hl 2 rfl) ?_
  refine lv_iconst (v := 0) hx hb dL_feed_1 (by decide) ?_
  refine lv_aload_n hx hb dL_feed_2 rfl (lv_at hl 0 rfl) ?_
  refine lv_iload_n hx hb dL_feed_3 rfl (lv_at hl 1 rfl) ?_
  refine vCall (w2 := HW cA ad hr h0 o od f g t9 s1) (vRunV (n := 1) (As := [.int a1]) (rest := [.int 0, .ref o]) ⟨hx, hb, hml, hown, hts⟩ (kX12_feed l hl9 D cA ad hr h0 _ N a1 s0 (k, v, t9) h) qco_X12_feed qml_L_149 qin_X12_feed qse_X12_feed qini_X12 (by decide +kernel) (by rw [← erm]; rfl) hN hE hV hS hA hK hP hD (mid 2 61) (mid_C (A := HA cA o od f g) (B := ThlW cA ad hr h0 s0) (C := RowW cA hr s1) rfl rfl) (mid_nd _ _) (q0 := 0) rfl rfl rfl rfl rfl hl.1 rfl (lv_room (Nat.le_of_ble_eq_true rfl)) dL_feed_4 ⟨(by rw [← erm]; exact Nat.le_of_ble_eq_true rfl), (by rw [← erm]; exact Nat.le_of_ble_eq_true rfl)⟩) hP hD hS hA (mid 2 61) (mid_C (A := HA cA o od f g) (B := ThlW cA ad hr h0 s0) (C := RowW cA hr s1) rfl rfl) rfl (mid_H (A := HA cA o od f g) (B := ThlW cA ad hr h0 s0) (B' := ThlW cA ad hr h0 t9) (C := RowW cA hr s1) rfl rfl rfl) (fun hne q9 ce H locs hP hD hS hc1 hc2 hc3 => ?_) (fun hk H locs hP hD hS => ?_)
  · rcases hq with hq | hq
    · exact absurd hq hne
    have hq := List.mem_singleton.mp hq
    subst hq
    refine vx_catch hown [] ⟨0, 9, 12, 15⟩ [] htab hp0 (by decide) (by decide) (hts _ qcx_L_15) (hN.use qca_4) hc1 hc2 hc3 ?_
    refine lv_astore_n (lv' := [(3, .ref q9), (0, .ref (h0 0)), (1, .int a1), (2, .ref o)]) hx hb dL_feed_12 rfl hl (by decide) rfl (fun ls hl => ?_)
    refine lv_iconst (v := iI (lawC [4] 4 : Int)) hx hb dL_feed_13 (by decide +kernel) ?_
    exact hIret hx hb hr9 hlocks hP hK hD hS dL_feed_14
  · subst hk
    refine lv_i2l (v := v.toInt64) hx hb dL_feed_7 rfl ?_
    refine xLast (w2 := fun zz => HW cA ad hr h0 o od zz g t9 s1) hx hb hK hP hD hS 0 2 rfl rfl (x_lit (n := 1) (k := 0) (by decide)) (fun _ => rfl) dL_feed_8 (fun g9 eg9 H locs hP hD hS => ?_)
    subst eg9
    refine lv_goto (tgt := 15) hx hb dL_feed_9 (by decide) ?_
    refine lv_iconst (v := iI (lawC [4] 0 : Int)) hx hb dL_feed_15 (by decide +kernel) ?_
    exact hIret hx hb hr9 hlocks hP hK hD hS dL_feed_16
set_option maxRecDepth 100000 in
set_option maxHeartbeats 4000000 in
theorem h_runCommands (l : Launch) (hl9 : l.stackTraces = false) (D : va_G) (cA : Nat → ClassId) (ad : Nat → Nat) (hr : Nat → Nat → Nat) (h0 : Nat → Nat) (o od sz N : Nat) (f : Nat → Int64) (g : Nat → UInt64) (s0 : ThlS) (s1 : Nat → BooS) (k : Nat) (v : Int32) (t9 : ThlS) (r9 : Nat → BooS) (h : fX12_runCommands N s0 s1 = some (k, v, t9, r9)) (hq : k = 0 ∨ k ∈ ([3, 5] : List Nat)) : hM l yL_runCommands cL_runCommands 3 hh_runCommands ({ frames := 9, cells := 1, slots := 6, locals := 197 }) D cA ad (HW cA ad hr h0 o od f g s0 s1) sz [.ref (h0 0), .ref o] (some (.int (iI (lawC [3, 5] k : Int)))) (HW cA ad hr h0 o od (fU k f v.toInt64) g t9 r9) 1 6 := by
  generalize erm : ({ frames := 9, cells := 1, slots := 6, locals := 197 } : Room) = rm
  refine hMet (by decide) (Nat.le_of_ble_eq_true rfl) ?_
  intro p e s m below meth c hx hb hr9 hlocks hml hts hown hK hP A eA hD hS hA hsz hN hE hV hX htab ls hl
  have hl : lv_has ls 3 [(0, .ref (h0 0)), (1, .ref o)] := hl
  clear eA
  refine lv_aload_n hx hb dL_runCommands_0 rfl (lv_at hl 1 rfl) ?_
  refine lv_iconst (v := 0) hx hb dL_runCommands_1 (by decide) ?_
  refine lv_aload_n hx hb dL_runCommands_2 rfl (lv_at hl 0 rfl) ?_
  refine vCall (w2 := HW cA ad hr h0 o od f g t9 r9) (vRunV (n := 0) (As := []) (rest := [.int 0, .ref o]) ⟨hx, hb, hml, hown, hts⟩ (kX12_runCommands l hl9 D cA ad hr h0 _ N  s0 s1 (k, v, t9, r9) h) qco_X12_runCommands qml_L_152 qin_X12_runCommands qse_X12_runCommands qini_X12 (by decide +kernel) (by rw [← erm]; rfl) hN hE hV hS hA hK hP hD (mid 2 286) (mid_C0 (A := HA cA o od f g) (B := ThlW cA ad hr h0 s0 ++ RowW cA hr s1) rfl (TR_len cA ad hr h0 s0 s1)) (mid_nd _ _) (q0 := 0) rfl rfl rfl rfl rfl hl.1 rfl (lv_room (Nat.le_of_ble_eq_true rfl)) dL_runCommands_3 ⟨(by rw [← erm]; exact Nat.le_of_ble_eq_true rfl), (by rw [← erm]; exact Nat.le_of_ble_eq_true rfl)⟩) hP hD hS hA (mid 2 286) (mid_C0 (A := HA cA o od f g) (B := ThlW cA ad hr h0 s0 ++ RowW cA hr s1) rfl (TR_len cA ad hr h0 s0 s1)) (TR_fst cA ad hr h0 t9 s0 r9 s1) (mid_H0 (A := HA cA o od f g) (B := ThlW cA ad hr h0 s0 ++ RowW cA hr s1) (B' := ThlW cA ad hr h0 t9 ++ RowW cA hr r9) rfl (TR_len cA ad hr h0 s0 s1) (TR_len cA ad hr h0 t9 r9)) (fun hne q9 ce H locs hP hD hS hc1 hc2 hc3 => ?_) (fun hk H locs hP hD hS => ?_)
  · rcases hq with hq | hq
    · exact absurd hq hne
    rcases List.mem_cons.mp hq with hq | hq
    · subst hq
      refine vx_catch hown [] ⟨0, 8, 11, 13⟩ [⟨0, 8, 14, 46⟩] htab hp0 (by decide) (by decide) (hts _ qcx_L_13) (hN.use qca_3) hc1 hc2 hc3 ?_
      refine lv_astore_n (lv' := [(2, .ref q9), (0, .ref (h0 0)), (1, .ref o)]) hx hb dL_runCommands_11 rfl hl (by decide) rfl (fun ls hl => ?_)
      refine lv_iconst (v := iI (lawC [3, 5] 3 : Int)) hx hb dL_runCommands_12 (by decide +kernel) ?_
      exact hIret hx hb hr9 hlocks hP hK hD hS dL_runCommands_13
    have hq := List.mem_singleton.mp hq
    subst hq
    refine vx_catch hown [⟨0, 8, 11, 13⟩] ⟨0, 8, 14, 46⟩ [] htab (hpc (.inr ⟨by decide, xEx 3, hts _ qcx_L_13, hX 4 2 (by decide) (by decide) (by decide)⟩) hp0) (by decide) (by decide) (hts _ qcx_L_46) (hN.use qca_5) hc1 hc2 hc3 ?_
    refine lv_astore_n (lv' := [(2, .ref q9), (0, .ref (h0 0)), (1, .ref o)]) hx hb dL_runCommands_14 rfl hl (by decide) rfl (fun ls hl => ?_)
    refine lv_iconst (v := iI (lawC [3, 5] 5 : Int)) hx hb dL_runCommands_15 (by decide +kernel) ?_
    exact hIret hx hb hr9 hlocks hP hK hD hS dL_runCommands_16
  · subst hk
    refine lv_i2l (v := v.toInt64) hx hb dL_runCommands_6 rfl ?_
    refine xLast (w2 := fun zz => HW cA ad hr h0 o od zz g t9 r9) hx hb hK hP hD hS 0 2 rfl rfl (x_lit (n := 1) (k := 0) (by decide)) (fun _ => rfl) dL_runCommands_7 (fun g9 eg9 H locs hP hD hS => ?_)
    subst eg9
    refine lv_goto (tgt := 17) hx hb dL_runCommands_8 (by decide) ?_
    refine lv_iconst (v := iI (lawC [3, 5] 0 : Int)) hx hb dL_runCommands_17 (by decide +kernel) ?_
    exact hIret hx hb hr9 hlocks hP hK hD hS dL_runCommands_18
set_option maxRecDepth 100000 in
set_option maxHeartbeats 4000000 in
theorem h_errorPosition (l : Launch) (hl9 : l.stackTraces = false) (D : va_G) (cA : Nat → ClassId) (ad : Nat → Nat) (hr : Nat → Nat → Nat) (h0 : Nat → Nat) (o od sz N : Nat) (f : Nat → Int64) (g : Nat → UInt64) (s0 : ThlS) (s1 : Nat → BooS) (k : Nat) (v : Int32) (h : fX12_errorPosition N s0 = some (k, v)) (hq : k = 0 ∨ k ∈ ([2] : List Nat)) : hM l yL_errorPosition cL_errorPosition 3 hh_errorPosition ({ frames := 7, cells := 1, slots := 6, locals := 110 }) D cA ad (HW cA ad hr h0 o od f g s0 s1) sz [.ref (h0 0), .ref o] (some (.int (iI (lawC [2] k : Int)))) (HW cA ad hr h0 o od (fU k f v.toInt64) g s0 s1) 1 6 := by
  generalize erm : ({ frames := 7, cells := 1, slots := 6, locals := 110 } : Room) = rm
  refine hMet (by decide) (Nat.le_of_ble_eq_true rfl) ?_
  intro p e s m below meth c hx hb hr9 hlocks hml hts hown hK hP A eA hD hS hA hsz hN hE hV hX htab ls hl
  have hl : lv_has ls 3 [(0, .ref (h0 0)), (1, .ref o)] := hl
  clear eA
  refine lv_aload_n hx hb dL_errorPosition_0 rfl (lv_at hl 1 rfl) ?_
  refine lv_iconst (v := 0) hx hb dL_errorPosition_1 (by decide) ?_
  refine lv_aload_n hx hb dL_errorPosition_2 rfl (lv_at hl 0 rfl) ?_
  refine vCall (w2 := HW cA ad hr h0 o od f g s0 s1) (vRunV (n := 0) (As := []) (rest := [.int 0, .ref o]) ⟨hx, hb, hml, hown, hts⟩ (kX12_errorPosition l hl9 D cA ad hr h0 _ N  s0 (k, v) h) qco_X12_errorPosition qml_L_156 qin_X12_errorPosition qse_X12_errorPosition qini_X12 (by decide +kernel) (by rw [← erm]; rfl) hN hE hV hS hA hK hP hD (mid 2 61) (mid_C (A := HA cA o od f g) (B := ThlW cA ad hr h0 s0) (C := RowW cA hr s1) rfl rfl) (mid_nd _ _) (q0 := 0) rfl rfl rfl rfl rfl hl.1 rfl (lv_room (Nat.le_of_ble_eq_true rfl)) dL_errorPosition_3 ⟨(by rw [← erm]; exact Nat.le_of_ble_eq_true rfl), (by rw [← erm]; exact Nat.le_of_ble_eq_true rfl)⟩) hP hD hS hA (mid 2 61) (mid_C (A := HA cA o od f g) (B := ThlW cA ad hr h0 s0) (C := RowW cA hr s1) rfl rfl) rfl (mid_H (A := HA cA o od f g) (B := ThlW cA ad hr h0 s0) (B' := ThlW cA ad hr h0 s0) (C := RowW cA hr s1) rfl rfl rfl) (fun hne q9 ce H locs hP hD hS hc1 hc2 hc3 => ?_) (fun hk H locs hP hD hS => ?_)
  · rcases hq with hq | hq
    · exact absurd hq hne
    have hq := List.mem_singleton.mp hq
    subst hq
    refine vx_catch hown [] ⟨0, 8, 11, 30⟩ [] htab hp0 (by decide) (by decide) (hts _ qcx_L_30) (hN.use qca_2) hc1 hc2 hc3 ?_
    refine lv_astore_n (lv' := [(2, .ref q9), (0, .ref (h0 0)), (1, .ref o)]) hx hb dL_errorPosition_11 rfl hl (by decide) rfl (fun ls hl => ?_)
    refine lv_iconst (v := iI (lawC [2] 2 : Int)) hx hb dL_errorPosition_12 (by decide +kernel) ?_
    exact hIret hx hb hr9 hlocks hP hK hD hS dL_errorPosition_13
  · subst hk
    refine lv_i2l (v := v.toInt64) hx hb dL_errorPosition_6 rfl ?_
    refine xLast (w2 := fun zz => HW cA ad hr h0 o od zz g s0 s1) hx hb hK hP hD hS 0 2 rfl rfl (x_lit (n := 1) (k := 0) (by decide)) (fun _ => rfl) dL_errorPosition_7 (fun g9 eg9 H locs hP hD hS => ?_)
    subst eg9
    refine lv_goto (tgt := 14) hx hb dL_errorPosition_8 (by decide) ?_
    refine lv_iconst (v := iI (lawC [2] 0 : Int)) hx hb dL_errorPosition_14 (by decide +kernel) ?_
    exact hIret hx hb hr9 hlocks hP hK hD hS dL_errorPosition_15
set_option maxRecDepth 100000 in
set_option maxHeartbeats 4000000 in
theorem h_failedCommand (l : Launch) (hl9 : l.stackTraces = false) (D : va_G) (cA : Nat → ClassId) (ad : Nat → Nat) (hr : Nat → Nat → Nat) (h0 : Nat → Nat) (o od sz N : Nat) (f : Nat → Int64) (g : Nat → UInt64) (s0 : ThlS) (s1 : Nat → BooS) (k : Nat) (v : Int32) (h : fX12_failedCommand N s0 = some (k, v)) (hq : k = 0 ∨ k ∈ ([2] : List Nat)) : hM l yL_failedCommand cL_failedCommand 3 hh_failedCommand ({ frames := 7, cells := 1, slots := 6, locals := 110 }) D cA ad (HW cA ad hr h0 o od f g s0 s1) sz [.ref (h0 0), .ref o] (some (.int (iI (lawC [2] k : Int)))) (HW cA ad hr h0 o od (fU k f v.toInt64) g s0 s1) 1 6 := by
  generalize erm : ({ frames := 7, cells := 1, slots := 6, locals := 110 } : Room) = rm
  refine hMet (by decide) (Nat.le_of_ble_eq_true rfl) ?_
  intro p e s m below meth c hx hb hr9 hlocks hml hts hown hK hP A eA hD hS hA hsz hN hE hV hX htab ls hl
  have hl : lv_has ls 3 [(0, .ref (h0 0)), (1, .ref o)] := hl
  clear eA
  refine lv_aload_n hx hb dL_failedCommand_0 rfl (lv_at hl 1 rfl) ?_
  refine lv_iconst (v := 0) hx hb dL_failedCommand_1 (by decide) ?_
  refine lv_aload_n hx hb dL_failedCommand_2 rfl (lv_at hl 0 rfl) ?_
  refine vCall (w2 := HW cA ad hr h0 o od f g s0 s1) (vRunV (n := 0) (As := []) (rest := [.int 0, .ref o]) ⟨hx, hb, hml, hown, hts⟩ (kX12_failedCommand l hl9 D cA ad hr h0 _ N  s0 (k, v) h) qco_X12_failedCommand qml_L_159 qin_X12_failedCommand qse_X12_failedCommand qini_X12 (by decide +kernel) (by rw [← erm]; rfl) hN hE hV hS hA hK hP hD (mid 2 61) (mid_C (A := HA cA o od f g) (B := ThlW cA ad hr h0 s0) (C := RowW cA hr s1) rfl rfl) (mid_nd _ _) (q0 := 0) rfl rfl rfl rfl rfl hl.1 rfl (lv_room (Nat.le_of_ble_eq_true rfl)) dL_failedCommand_3 ⟨(by rw [← erm]; exact Nat.le_of_ble_eq_true rfl), (by rw [← erm]; exact Nat.le_of_ble_eq_true rfl)⟩) hP hD hS hA (mid 2 61) (mid_C (A := HA cA o od f g) (B := ThlW cA ad hr h0 s0) (C := RowW cA hr s1) rfl rfl) rfl (mid_H (A := HA cA o od f g) (B := ThlW cA ad hr h0 s0) (B' := ThlW cA ad hr h0 s0) (C := RowW cA hr s1) rfl rfl rfl) (fun hne q9 ce H locs hP hD hS hc1 hc2 hc3 => ?_) (fun hk H locs hP hD hS => ?_)
  · rcases hq with hq | hq
    · exact absurd hq hne
    have hq := List.mem_singleton.mp hq
    subst hq
    refine vx_catch hown [] ⟨0, 8, 11, 30⟩ [] htab hp0 (by decide) (by decide) (hts _ qcx_L_30) (hN.use qca_2) hc1 hc2 hc3 ?_
    refine lv_astore_n (lv' := [(2, .ref q9), (0, .ref (h0 0)), (1, .ref o)]) hx hb dL_failedCommand_11 rfl hl (by decide) rfl (fun ls hl => ?_)
    refine lv_iconst (v := iI (lawC [2] 2 : Int)) hx hb dL_failedCommand_12 (by decide +kernel) ?_
    exact hIret hx hb hr9 hlocks hP hK hD hS dL_failedCommand_13
  · subst hk
    refine lv_i2l (v := v.toInt64) hx hb dL_failedCommand_6 rfl ?_
    refine xLast (w2 := fun zz => HW cA ad hr h0 o od zz g s0 s1) hx hb hK hP hD hS 0 2 rfl rfl (x_lit (n := 1) (k := 0) (by decide)) (fun _ => rfl) dL_failedCommand_7 (fun g9 eg9 H locs hP hD hS => ?_)
    subst eg9
    refine lv_goto (tgt := 14) hx hb dL_failedCommand_8 (by decide) ?_
    refine lv_iconst (v := iI (lawC [2] 0 : Int)) hx hb dL_failedCommand_14 (by decide +kernel) ?_
    exact hIret hx hb hr9 hlocks hP hK hD hS dL_failedCommand_15
set_option maxRecDepth 100000 in
set_option maxHeartbeats 4000000 in
theorem h_writeEntry (l : Launch) (hl9 : l.stackTraces = false) (D : va_G) (cA : Nat → ClassId) (ad : Nat → Nat) (hr : Nat → Nat → Nat) (h0 : Nat → Nat) (o od sz N : Nat) (a1 : Int32) (f : Nat → Int64) (g : Nat → UInt64) (s0 : ThlS) (s1 : Nat → BooS) (k : Nat) (v : Int32) (t9 : ThlS) (h : fX12_writeEntry N a1 s0 = some (k, v, t9)) (hq : k = 0 ∨ k ∈ ([2] : List Nat)) : hM l yL_writeEntry cL_writeEntry 4 hh_writeEntry ({ frames := 8, cells := 1, slots := 6, locals := 132 }) D cA ad (HW cA ad hr h0 o od f g s0 s1) sz [.ref (h0 0), .int a1, .ref o] (some (.int (iI (lawC [2] k : Int)))) (HW cA ad hr h0 o od (fU k f v.toInt64) g t9 s1) 1 6 := by
  generalize erm : ({ frames := 8, cells := 1, slots := 6, locals := 132 } : Room) = rm
  refine hMet (by decide) (Nat.le_of_ble_eq_true rfl) ?_
  intro p e s m below meth c hx hb hr9 hlocks hml hts hown hK hP A eA hD hS hA hsz hN hE hV hX htab ls hl
  have hl : lv_has ls 4 [(0, .ref (h0 0)), (1, .int a1), (2, .ref o)] := hl
  clear eA
  refine lv_aload_n hx hb dL_writeEntry_0 rfl (lv_at hl 2 rfl) ?_
  refine lv_iconst (v := 0) hx hb dL_writeEntry_1 (by decide) ?_
  refine lv_aload_n hx hb dL_writeEntry_2 rfl (lv_at hl 0 rfl) ?_
  refine lv_iload_n hx hb dL_writeEntry_3 rfl (lv_at hl 1 rfl) ?_
  refine vCall (w2 := HW cA ad hr h0 o od f g t9 s1) (vRunV (n := 1) (As := [.int a1]) (rest := [.int 0, .ref o]) ⟨hx, hb, hml, hown, hts⟩ (kX12_writeEntry l hl9 D cA ad hr h0 _ N a1 s0 (k, v, t9) h) qco_X12_writeEntry qml_L_162 qin_X12_writeEntry qse_X12_writeEntry qini_X12 (by decide +kernel) (by rw [← erm]; rfl) hN hE hV hS hA hK hP hD (mid 2 61) (mid_C (A := HA cA o od f g) (B := ThlW cA ad hr h0 s0) (C := RowW cA hr s1) rfl rfl) (mid_nd _ _) (q0 := 0) rfl rfl rfl rfl rfl hl.1 rfl (lv_room (Nat.le_of_ble_eq_true rfl)) dL_writeEntry_4 ⟨(by rw [← erm]; exact Nat.le_of_ble_eq_true rfl), (by rw [← erm]; exact Nat.le_of_ble_eq_true rfl)⟩) hP hD hS hA (mid 2 61) (mid_C (A := HA cA o od f g) (B := ThlW cA ad hr h0 s0) (C := RowW cA hr s1) rfl rfl) rfl (mid_H (A := HA cA o od f g) (B := ThlW cA ad hr h0 s0) (B' := ThlW cA ad hr h0 t9) (C := RowW cA hr s1) rfl rfl rfl) (fun hne q9 ce H locs hP hD hS hc1 hc2 hc3 => ?_) (fun hk H locs hP hD hS => ?_)
  · rcases hq with hq | hq
    · exact absurd hq hne
    have hq := List.mem_singleton.mp hq
    subst hq
    refine vx_catch hown [] ⟨0, 9, 12, 30⟩ [] htab hp0 (by decide) (by decide) (hts _ qcx_L_30) (hN.use qca_2) hc1 hc2 hc3 ?_
    refine lv_astore_n (lv' := [(3, .ref q9), (0, .ref (h0 0)), (1, .int a1), (2, .ref o)]) hx hb dL_writeEntry_12 rfl hl (by decide) rfl (fun ls hl => ?_)
    refine lv_iconst (v := iI (lawC [2] 2 : Int)) hx hb dL_writeEntry_13 (by decide +kernel) ?_
    exact hIret hx hb hr9 hlocks hP hK hD hS dL_writeEntry_14
  · subst hk
    refine lv_i2l (v := v.toInt64) hx hb dL_writeEntry_7 rfl ?_
    refine xLast (w2 := fun zz => HW cA ad hr h0 o od zz g t9 s1) hx hb hK hP hD hS 0 2 rfl rfl (x_lit (n := 1) (k := 0) (by decide)) (fun _ => rfl) dL_writeEntry_8 (fun g9 eg9 H locs hP hD hS => ?_)
    subst eg9
    refine lv_goto (tgt := 15) hx hb dL_writeEntry_9 (by decide) ?_
    refine lv_iconst (v := iI (lawC [2] 0 : Int)) hx hb dL_writeEntry_15 (by decide +kernel) ?_
    exact hIret hx hb hr9 hlocks hP hK hD hS dL_writeEntry_16
set_option maxRecDepth 100000 in
set_option maxHeartbeats 4000000 in
theorem h_outputChar (l : Launch) (hl9 : l.stackTraces = false) (D : va_G) (cA : Nat → ClassId) (ad : Nat → Nat) (hr : Nat → Nat → Nat) (h0 : Nat → Nat) (o od sz N : Nat) (a1 : Int32) (f : Nat → Int64) (g : Nat → UInt64) (s0 : ThlS) (s1 : Nat → BooS) (k : Nat) (v : Int32) (h : fX12_outputChar N a1 s0 = some (k, v)) (hq : k = 0 ∨ k ∈ ([1] : List Nat)) : hM l yL_outputChar cL_outputChar 4 hh_outputChar ({ frames := 7, cells := 1, slots := 6, locals := 111 }) D cA ad (HW cA ad hr h0 o od f g s0 s1) sz [.ref (h0 0), .int a1, .ref o] (some (.int (iI (lawC [1] k : Int)))) (HW cA ad hr h0 o od (fU k f v.toInt64) g s0 s1) 1 6 := by
  generalize erm : ({ frames := 7, cells := 1, slots := 6, locals := 111 } : Room) = rm
  refine hMet (by decide) (Nat.le_of_ble_eq_true rfl) ?_
  intro p e s m below meth c hx hb hr9 hlocks hml hts hown hK hP A eA hD hS hA hsz hN hE hV hX htab ls hl
  have hl : lv_has ls 4 [(0, .ref (h0 0)), (1, .int a1), (2, .ref o)] := hl
  clear eA
  refine lv_aload_n hx hb dL_outputChar_0 rfl (lv_at hl 2 rfl) ?_
  refine lv_iconst (v := 0) hx hb dL_outputChar_1 (by decide) ?_
  refine lv_aload_n hx hb dL_outputChar_2 rfl (lv_at hl 0 rfl) ?_
  refine lv_iload_n hx hb dL_outputChar_3 rfl (lv_at hl 1 rfl) ?_
  refine vCall (w2 := HW cA ad hr h0 o od f g s0 s1) (vRunV (n := 1) (As := [.int a1]) (rest := [.int 0, .ref o]) ⟨hx, hb, hml, hown, hts⟩ (kX12_outputChar l hl9 D cA ad hr h0 _ N a1 s0 (k, v) h) qco_X12_outputChar qml_L_165 qin_X12_outputChar qse_X12_outputChar qini_X12 (by decide +kernel) (by rw [← erm]; rfl) hN hE hV hS hA hK hP hD (mid 2 61) (mid_C (A := HA cA o od f g) (B := ThlW cA ad hr h0 s0) (C := RowW cA hr s1) rfl rfl) (mid_nd _ _) (q0 := 0) rfl rfl rfl rfl rfl hl.1 rfl (lv_room (Nat.le_of_ble_eq_true rfl)) dL_outputChar_4 ⟨(by rw [← erm]; exact Nat.le_of_ble_eq_true rfl), (by rw [← erm]; exact Nat.le_of_ble_eq_true rfl)⟩) hP hD hS hA (mid 2 61) (mid_C (A := HA cA o od f g) (B := ThlW cA ad hr h0 s0) (C := RowW cA hr s1) rfl rfl) rfl (mid_H (A := HA cA o od f g) (B := ThlW cA ad hr h0 s0) (B' := ThlW cA ad hr h0 s0) (C := RowW cA hr s1) rfl rfl rfl) (fun hne q9 ce H locs hP hD hS hc1 hc2 hc3 => ?_) (fun hk H locs hP hD hS => ?_)
  · rcases hq with hq | hq
    · exact absurd hq hne
    have hq := List.mem_singleton.mp hq
    subst hq
    refine vx_catch hown [] ⟨0, 9, 12, 21⟩ [] htab hp0 (by decide) (by decide) (hts _ qcx_L_21) (hN.use qca_1) hc1 hc2 hc3 ?_
    refine lv_astore_n (lv' := [(3, .ref q9), (0, .ref (h0 0)), (1, .int a1), (2, .ref o)]) hx hb dL_outputChar_12 rfl hl (by decide) rfl (fun ls hl => ?_)
    refine lv_iconst (v := iI (lawC [1] 1 : Int)) hx hb dL_outputChar_13 (by decide +kernel) ?_
    exact hIret hx hb hr9 hlocks hP hK hD hS dL_outputChar_14
  · subst hk
    refine lv_i2l (v := v.toInt64) hx hb dL_outputChar_7 rfl ?_
    refine xLast (w2 := fun zz => HW cA ad hr h0 o od zz g s0 s1) hx hb hK hP hD hS 0 2 rfl rfl (x_lit (n := 1) (k := 0) (by decide)) (fun _ => rfl) dL_outputChar_8 (fun g9 eg9 H locs hP hD hS => ?_)
    subst eg9
    refine lv_goto (tgt := 15) hx hb dL_outputChar_9 (by decide) ?_
    refine lv_iconst (v := iI (lawC [1] 0 : Int)) hx hb dL_outputChar_15 (by decide +kernel) ?_
    exact hIret hx hb hr9 hlocks hP hK hD hS dL_outputChar_16
set_option maxRecDepth 100000 in
set_option maxHeartbeats 4000000 in
theorem h_undo (l : Launch) (hl9 : l.stackTraces = false) (D : va_G) (cA : Nat → ClassId) (ad : Nat → Nat) (hr : Nat → Nat → Nat) (h0 : Nat → Nat) (o od sz N : Nat) (f : Nat → Int64) (g : Nat → UInt64) (s0 : ThlS) (s1 : Nat → BooS) (k : Nat) (v : Int32) (t9 : ThlS) (r9 : Nat → BooS) (h : fX12_undo N s0 s1 = some (k, v, t9, r9)) (hq : k = 0 ∨ k ∈ ([4] : List Nat)) : hM l yL_undo cL_undo 3 hh_undo ({ frames := 7, cells := 1, slots := 6, locals := 144 }) D cA ad (HW cA ad hr h0 o od f g s0 s1) sz [.ref (h0 0), .ref o] (some (.int (iI (lawC [4] k : Int)))) (HW cA ad hr h0 o od (fU k f v.toInt64) g t9 r9) 1 6 := by
  generalize erm : ({ frames := 7, cells := 1, slots := 6, locals := 144 } : Room) = rm
  refine hMet (by decide) (Nat.le_of_ble_eq_true rfl) ?_
  intro p e s m below meth c hx hb hr9 hlocks hml hts hown hK hP A eA hD hS hA hsz hN hE hV hX htab ls hl
  have hl : lv_has ls 3 [(0, .ref (h0 0)), (1, .ref o)] := hl
  clear eA
  refine lv_aload_n hx hb dL_undo_0 rfl (lv_at hl 1 rfl) ?_
  refine lv_iconst (v := 0) hx hb dL_undo_1 (by decide) ?_
  refine lv_aload_n hx hb dL_undo_2 rfl (lv_at hl 0 rfl) ?_
  refine vCall (w2 := HW cA ad hr h0 o od f g t9 r9) (vRunV (n := 0) (As := []) (rest := [.int 0, .ref o]) ⟨hx, hb, hml, hown, hts⟩ (kX12_undo l hl9 D cA ad hr h0 _ N  s0 s1 (k, v, t9, r9) h) qco_X12_undo qml_L_168 qin_X12_undo qse_X12_undo qini_X12 (by decide +kernel) (by rw [← erm]; rfl) hN hE hV hS hA hK hP hD (mid 2 286) (mid_C0 (A := HA cA o od f g) (B := ThlW cA ad hr h0 s0 ++ RowW cA hr s1) rfl (TR_len cA ad hr h0 s0 s1)) (mid_nd _ _) (q0 := 0) rfl rfl rfl rfl rfl hl.1 rfl (lv_room (Nat.le_of_ble_eq_true rfl)) dL_undo_3 ⟨(by rw [← erm]; exact Nat.le_of_ble_eq_true rfl), (by rw [← erm]; exact Nat.le_of_ble_eq_true rfl)⟩) hP hD hS hA (mid 2 286) (mid_C0 (A := HA cA o od f g) (B := ThlW cA ad hr h0 s0 ++ RowW cA hr s1) rfl (TR_len cA ad hr h0 s0 s1)) (TR_fst cA ad hr h0 t9 s0 r9 s1) (mid_H0 (A := HA cA o od f g) (B := ThlW cA ad hr h0 s0 ++ RowW cA hr s1) (B' := ThlW cA ad hr h0 t9 ++ RowW cA hr r9) rfl (TR_len cA ad hr h0 s0 s1) (TR_len cA ad hr h0 t9 r9)) (fun hne q9 ce H locs hP hD hS hc1 hc2 hc3 => ?_) (fun hk H locs hP hD hS => ?_)
  · rcases hq with hq | hq
    · exact absurd hq hne
    have hq := List.mem_singleton.mp hq
    subst hq
    refine vx_catch hown [] ⟨0, 8, 11, 15⟩ [] htab hp0 (by decide) (by decide) (hts _ qcx_L_15) (hN.use qca_4) hc1 hc2 hc3 ?_
    refine lv_astore_n (lv' := [(2, .ref q9), (0, .ref (h0 0)), (1, .ref o)]) hx hb dL_undo_11 rfl hl (by decide) rfl (fun ls hl => ?_)
    refine lv_iconst (v := iI (lawC [4] 4 : Int)) hx hb dL_undo_12 (by decide +kernel) ?_
    exact hIret hx hb hr9 hlocks hP hK hD hS dL_undo_13
  · subst hk
    refine lv_i2l (v := v.toInt64) hx hb dL_undo_6 rfl ?_
    refine xLast (w2 := fun zz => HW cA ad hr h0 o od zz g t9 r9) hx hb hK hP hD hS 0 2 rfl rfl (x_lit (n := 1) (k := 0) (by decide)) (fun _ => rfl) dL_undo_7 (fun g9 eg9 H locs hP hD hS => ?_)
    subst eg9
    refine lv_goto (tgt := 14) hx hb dL_undo_8 (by decide) ?_
    refine lv_iconst (v := iI (lawC [4] 0 : Int)) hx hb dL_undo_14 (by decide +kernel) ?_
    exact hIret hx hb hr9 hlocks hP hK hD hS dL_undo_15
set_option maxRecDepth 100000 in
set_option maxHeartbeats 4000000 in
theorem h_restore (l : Launch) (hl9 : l.stackTraces = false) (D : va_G) (cA : Nat → ClassId) (ad : Nat → Nat) (hr : Nat → Nat → Nat) (h0 : Nat → Nat) (o od sz N : Nat) (f : Nat → Int64) (g : Nat → UInt64) (s0 : ThlS) (s1 : Nat → BooS) (k : Nat) (v : Int32) (t9 : ThlS) (h : fX12_restore N s0 = some (k, v, t9)) (hq : k = 0 ∨ k ∈ ([4] : List Nat)) : hM l yL_restore cL_restore 3 hh_restore ({ frames := 7, cells := 1, slots := 6, locals := 110 }) D cA ad (HW cA ad hr h0 o od f g s0 s1) sz [.ref (h0 0), .ref o] (some (.int (iI (lawC [4] k : Int)))) (HW cA ad hr h0 o od (fU k f v.toInt64) g t9 s1) 1 6 := by
  generalize erm : ({ frames := 7, cells := 1, slots := 6, locals := 110 } : Room) = rm
  refine hMet (by decide) (Nat.le_of_ble_eq_true rfl) ?_
  intro p e s m below meth c hx hb hr9 hlocks hml hts hown hK hP A eA hD hS hA hsz hN hE hV hX htab ls hl
  have hl : lv_has ls 3 [(0, .ref (h0 0)), (1, .ref o)] := hl
  clear eA
  refine lv_aload_n hx hb dL_restore_0 rfl (lv_at hl 1 rfl) ?_
  refine lv_iconst (v := 0) hx hb dL_restore_1 (by decide) ?_
  refine lv_aload_n hx hb dL_restore_2 rfl (lv_at hl 0 rfl) ?_
  refine vCall (w2 := HW cA ad hr h0 o od f g t9 s1) (vRunV (n := 0) (As := []) (rest := [.int 0, .ref o]) ⟨hx, hb, hml, hown, hts⟩ (kX12_restore l hl9 D cA ad hr h0 _ N  s0 (k, v, t9) h) qco_X12_restore qml_L_171 qin_X12_restore qse_X12_restore qini_X12 (by decide +kernel) (by rw [← erm]; rfl) hN hE hV hS hA hK hP hD (mid 2 61) (mid_C (A := HA cA o od f g) (B := ThlW cA ad hr h0 s0) (C := RowW cA hr s1) rfl rfl) (mid_nd _ _) (q0 := 0) rfl rfl rfl rfl rfl hl.1 rfl (lv_room (Nat.le_of_ble_eq_true rfl)) dL_restore_3 ⟨(by rw [← erm]; exact Nat.le_of_ble_eq_true rfl), (by rw [← erm]; exact Nat.le_of_ble_eq_true rfl)⟩) hP hD hS hA (mid 2 61) (mid_C (A := HA cA o od f g) (B := ThlW cA ad hr h0 s0) (C := RowW cA hr s1) rfl rfl) rfl (mid_H (A := HA cA o od f g) (B := ThlW cA ad hr h0 s0) (B' := ThlW cA ad hr h0 t9) (C := RowW cA hr s1) rfl rfl rfl) (fun hne q9 ce H locs hP hD hS hc1 hc2 hc3 => ?_) (fun hk H locs hP hD hS => ?_)
  · rcases hq with hq | hq
    · exact absurd hq hne
    have hq := List.mem_singleton.mp hq
    subst hq
    refine vx_catch hown [] ⟨0, 8, 11, 15⟩ [] htab hp0 (by decide) (by decide) (hts _ qcx_L_15) (hN.use qca_4) hc1 hc2 hc3 ?_
    refine lv_astore_n (lv' := [(2, .ref q9), (0, .ref (h0 0)), (1, .ref o)]) hx hb dL_restore_11 rfl hl (by decide) rfl (fun ls hl => ?_)
    refine lv_iconst (v := iI (lawC [4] 4 : Int)) hx hb dL_restore_12 (by decide +kernel) ?_
    exact hIret hx hb hr9 hlocks hP hK hD hS dL_restore_13
  · subst hk
    refine lv_i2l (v := v.toInt64) hx hb dL_restore_6 rfl ?_
    refine xLast (w2 := fun zz => HW cA ad hr h0 o od zz g t9 s1) hx hb hK hP hD hS 0 2 rfl rfl (x_lit (n := 1) (k := 0) (by decide)) (fun _ => rfl) dL_restore_7 (fun g9 eg9 H locs hP hD hS => ?_)
    subst eg9
    refine lv_goto (tgt := 14) hx hb dL_restore_8 (by decide) ?_
    refine lv_iconst (v := iI (lawC [4] 0 : Int)) hx hb dL_restore_14 (by decide +kernel) ?_
    exact hIret hx hb hr9 hlocks hP hK hD hS dL_restore_15
