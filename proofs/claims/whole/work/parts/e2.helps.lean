/-! helpers -/
set_option maxRecDepth 100000 in
set_option maxHeartbeats 4000000 in
theorem h_credits (l : Launch) (hl9 : l.stackTraces = false) (D : va_G) (cA : Nat → ClassId) (ad : Nat → Nat) (hr : Nat → Nat → Nat) (h0 : Nat → Nat) (o od sz N : Nat) (a1 : Int32) (f : Nat → Int64) (g : Nat → UInt64) (s0 : ThlS) (s1 : Nat → BooS) (k : Nat) (v : Int64) (h : fX12_credits N a1 s0 = some (k, v)) (hq : k = 0 ∨ k ∈ ([1] : List Nat)) : hM l yL_credits cL_credits 4 hh_credits ({ frames := 8, cells := 1, slots := 6, locals := 132 }) D cA ad (HW cA ad hr h0 o od f g s0 s1) sz [.ref (h0 0), .int a1, .ref o] (some (.int (iI (lawC [1] k : Int)))) (HW cA ad hr h0 o od (fU k f v) g s0 s1) 1 6 := by
  generalize erm : ({ frames := 8, cells := 1, slots := 6, locals := 132 } : Room) = rm
  refine hMet (by decide) (Nat.le_of_ble_eq_true rfl) ?_
  intro p e s m below meth c hx hb hr9 hlocks hml hts hown hK hP A eA hD hS hA hsz hN hE hV hX htab ls hl
  have hl : lv_has ls 4 [(0, .ref (h0 0)), (1, .int a1), (2, .ref o)] := hl
  clear eA
  refine lv_aload_n hx hb dL_credits_0 rfl (lv_at hl 2 rfl) ?_
  refine lv_iconst (v := 0) hx hb dL_credits_1 (by decide) ?_
  refine lv_aload_n hx hb dL_credits_2 rfl (lv_at hl 0 rfl) ?_
  refine lv_iload_n hx hb dL_credits_3 rfl (lv_at hl 1 rfl) ?_
  refine vCall (w2 := HW cA ad hr h0 o od f g s0 s1) (vRunV (n := 1) (As := [.int a1]) (rest := [.int 0, .ref o]) ⟨hx, hb, hml, hown, hts⟩ (kX12_credits l hl9 D cA ad hr h0 _ N a1 s0 (k, v) h) qco_X12_credits qml_L_68 qin_X12_credits qse_X12_credits qini_X12 (by decide +kernel) (by rw [← erm]; rfl) hN hE hV hS hA hK hP hD (mid 2 61) (mid_C (A := HA cA o od f g) (B := ThlW cA ad hr h0 s0) (C := RowW cA hr s1) rfl rfl) (mid_nd _ _) (q0 := 0) rfl rfl rfl rfl rfl hl.1 rfl (lv_room (Nat.le_of_ble_eq_true rfl)) dL_credits_4 ⟨(by rw [← erm]; exact Nat.le_of_ble_eq_true rfl), (by rw [← erm]; exact Nat.le_of_ble_eq_true rfl)⟩) hP hD hS hA (mid 2 61) (mid_C (A := HA cA o od f g) (B := ThlW cA ad hr h0 s0) (C := RowW cA hr s1) rfl rfl) rfl (mid_H (A := HA cA o od f g) (B := ThlW cA ad hr h0 s0) (B' := ThlW cA ad hr h0 s0) (C := RowW cA hr s1) rfl rfl rfl) (fun hne q9 ce H locs hP hD hS hc1 hc2 hc3 => ?_) (fun hk H locs hP hD hS => ?_)
  · rcases hq with hq | hq
    · exact absurd hq hne
    have hq := List.mem_singleton.mp hq
    subst hq
    refine vx_catch hown [] ⟨0, 8, 11, 21⟩ [] htab hp0 (by decide) (by decide) (hts _ qcx_L_21) (hN.use qca_1) hc1 hc2 hc3 ?_
    refine lv_astore_n (lv' := [(3, .ref q9), (0, .ref (h0 0)), (1, .int a1), (2, .ref o)]) hx hb dL_credits_11 rfl hl (by decide) rfl (fun ls hl => ?_)
    refine lv_iconst (v := iI (lawC [1] 1 : Int)) hx hb dL_credits_12 (by decide +kernel) ?_
    exact hIret hx hb hr9 hlocks hP hK hD hS dL_credits_13
  · subst hk
    refine xLast (w2 := fun zz => HW cA ad hr h0 o od zz g s0 s1) hx hb hK hP hD hS 0 2 rfl rfl (x_lit (n := 1) (k := 0) (by decide)) (fun _ => rfl) dL_credits_7 (fun g9 eg9 H locs hP hD hS => ?_)
    subst eg9
    refine lv_goto (tgt := 14) hx hb dL_credits_8 (by decide) ?_
    refine lv_iconst (v := iI (lawC [1] 0 : Int)) hx hb dL_credits_14 (by decide +kernel) ?_
    exact hIret hx hb hr9 hlocks hP hK hD hS dL_credits_15
set_option maxRecDepth 100000 in
set_option maxHeartbeats 4000000 in
theorem h_balance (l : Launch) (hl9 : l.stackTraces = false) (D : va_G) (cA : Nat → ClassId) (ad : Nat → Nat) (hr : Nat → Nat → Nat) (h0 : Nat → Nat) (o od sz N : Nat) (a1 : Int32) (f : Nat → Int64) (g : Nat → UInt64) (s0 : ThlS) (s1 : Nat → BooS) (k : Nat) (v : Int64) (h : fX12_balance N a1 s0 = some (k, v)) (hq : k = 0 ∨ k ∈ ([1] : List Nat)) : hM l yL_balance cL_balance 4 hh_balance ({ frames := 8, cells := 1, slots := 6, locals := 132 }) D cA ad (HW cA ad hr h0 o od f g s0 s1) sz [.ref (h0 0), .int a1, .ref o] (some (.int (iI (lawC [1] k : Int)))) (HW cA ad hr h0 o od (fU k f v) g s0 s1) 1 6 := by
  generalize erm : ({ frames := 8, cells := 1, slots := 6, locals := 132 } : Room) = rm
  refine hMet (by decide) (Nat.le_of_ble_eq_true rfl) ?_
  intro p e s m below meth c hx hb hr9 hlocks hml hts hown hK hP A eA hD hS hA hsz hN hE hV hX htab ls hl
  have hl : lv_has ls 4 [(0, .ref (h0 0)), (1, .int a1), (2, .ref o)] := hl
  clear eA
  refine lv_aload_n hx hb dL_balance_0 rfl (lv_at hl 2 rfl) ?_
  refine lv_iconst (v := 0) hx hb dL_balance_1 (by decide) ?_
  refine lv_aload_n hx hb dL_balance_2 rfl (lv_at hl 0 rfl) ?_
  refine lv_iload_n hx hb dL_balance_3 rfl (lv_at hl 1 rfl) ?_
  refine vCall (w2 := HW cA ad hr h0 o od f g s0 s1) (vRunV (n := 1) (As := [.int a1]) (rest := [.int 0, .ref o]) ⟨hx, hb, hml, hown, hts⟩ (kX12_balance l hl9 D cA ad hr h0 _ N a1 s0 (k, v) h) qco_X12_balance qml_L_71 qin_X12_balance qse_X12_balance qini_X12 (by decide +kernel) (by rw [← erm]; rfl) hN hE hV hS hA hK hP hD (mid 2 61) (mid_C (A := HA cA o od f g) (B := ThlW cA ad hr h0 s0) (C := RowW cA hr s1) rfl rfl) (mid_nd _ _) (q0 := 0) rfl rfl rfl rfl rfl hl.1 rfl (lv_room (Nat.le_of_ble_eq_true rfl)) dL_balance_4 ⟨(by rw [← erm]; exact Nat.le_of_ble_eq_true rfl), (by rw [← erm]; exact Nat.le_of_ble_eq_true rfl)⟩) hP hD hS hA (mid 2 61) (mid_C (A := HA cA o od f g) (B := ThlW cA ad hr h0 s0) (C := RowW cA hr s1) rfl rfl) rfl (mid_H (A := HA cA o od f g) (B := ThlW cA ad hr h0 s0) (B' := ThlW cA ad hr h0 s0) (C := RowW cA hr s1) rfl rfl rfl) (fun hne q9 ce H locs hP hD hS hc1 hc2 hc3 => ?_) (fun hk H locs hP hD hS => ?_)
  · rcases hq with hq | hq
    · exact absurd hq hne
    have hq := List.mem_singleton.mp hq
    subst hq
    refine vx_catch hown [] ⟨0, 8, 11, 21⟩ [] htab hp0 (by decide) (by decide) (hts _ qcx_L_21) (hN.use qca_1) hc1 hc2 hc3 ?_
    refine lv_astore_n (lv' := [(3, .ref q9), (0, .ref (h0 0)), (1, .int a1), (2, .ref o)]) hx hb dL_balance_11 rfl hl (by decide) rfl (fun ls hl => ?_)
    refine lv_iconst (v := iI (lawC [1] 1 : Int)) hx hb dL_balance_12 (by decide +kernel) ?_
    exact hIret hx hb hr9 hlocks hP hK hD hS dL_balance_13
  · subst hk
    refine xLast (w2 := fun zz => HW cA ad hr h0 o od zz g s0 s1) hx hb hK hP hD hS 0 2 rfl rfl (x_lit (n := 1) (k := 0) (by decide)) (fun _ => rfl) dL_balance_7 (fun g9 eg9 H locs hP hD hS => ?_)
    subst eg9
    refine lv_goto (tgt := 14) hx hb dL_balance_8 (by decide) ?_
    refine lv_iconst (v := iI (lawC [1] 0 : Int)) hx hb dL_balance_14 (by decide +kernel) ?_
    exact hIret hx hb hr9 hlocks hP hK hD hS dL_balance_15
set_option maxRecDepth 100000 in
set_option maxHeartbeats 4000000 in
theorem h_treeBalance (l : Launch) (hl9 : l.stackTraces = false) (D : va_G) (cA : Nat → ClassId) (ad : Nat → Nat) (hr : Nat → Nat → Nat) (h0 : Nat → Nat) (o od sz N : Nat) (a1 : Int32) (f : Nat → Int64) (g : Nat → UInt64) (s0 : ThlS) (s1 : Nat → BooS) (k : Nat) (v : Int64) (h : fX12_treeBalance N a1 s0 = some (k, v)) (hq : k = 0 ∨ k ∈ ([1] : List Nat)) : hM l yL_treeBalance cL_treeBalance 4 hh_treeBalance ({ frames := 8, cells := 1, slots := 6, locals := 132 }) D cA ad (HW cA ad hr h0 o od f g s0 s1) sz [.ref (h0 0), .int a1, .ref o] (some (.int (iI (lawC [1] k : Int)))) (HW cA ad hr h0 o od (fU k f v) g s0 s1) 1 6 := by
  generalize erm : ({ frames := 8, cells := 1, slots := 6, locals := 132 } : Room) = rm
  refine hMet (by decide) (Nat.le_of_ble_eq_true rfl) ?_
  intro p e s m below meth c hx hb hr9 hlocks hml hts hown hK hP A eA hD hS hA hsz hN hE hV hX htab ls hl
  have hl : lv_has ls 4 [(0, .ref (h0 0)), (1, .int a1), (2, .ref o)] := hl
  clear eA
  refine lv_aload_n hx hb dL_treeBalance_0 rfl (lv_at hl 2 rfl) ?_
  refine lv_iconst (v := 0) hx hb dL_treeBalance_1 (by decide) ?_
  refine lv_aload_n hx hb dL_treeBalance_2 rfl (lv_at hl 0 rfl) ?_
  refine lv_iload_n hx hb dL_treeBalance_3 rfl (lv_at hl 1 rfl) ?_
  refine vCall (w2 := HW cA ad hr h0 o od f g s0 s1) (vRunV (n := 1) (As := [.int a1]) (rest := [.int 0, .ref o]) ⟨hx, hb, hml, hown, hts⟩ (kX12_treeBalance l hl9 D cA ad hr h0 _ N a1 s0 (k, v) h) qco_X12_treeBalance qml_L_74 qin_X12_treeBalance qse_X12_treeBalance qini_X12 (by decide +kernel) (by rw [← erm]; rfl) hN hE hV hS hA hK hP hD (mid 2 61) (mid_C (A := HA cA o od f g) (B := ThlW cA ad hr h0 s0) (C := RowW cA hr s1) rfl rfl) (mid_nd _ _) (q0 := 0) rfl rfl rfl rfl rfl hl.1 rfl (lv_room (Nat.le_of_ble_eq_true rfl)) dL_treeBalance_4 ⟨(by rw [← erm]; exact Nat.le_of_ble_eq_true rfl), (by rw [← erm]; exact Nat.le_of_ble_eq_true rfl)⟩) hP hD hS hA (mid 2 61) (mid_C (A := HA cA o od f g) (B := ThlW cA ad hr h0 s0) (C := RowW cA hr s1) rfl rfl) rfl (mid_H (A := HA cA o od f g) (B := ThlW cA ad hr h0 s0) (B' := ThlW cA ad hr h0 s0) (C := RowW cA hr s1) rfl rfl rfl) (fun hne q9 ce H locs hP hD hS hc1 hc2 hc3 => ?_) (fun hk H locs hP hD hS => ?_)
  · rcases hq with hq | hq
    · exact absurd hq hne
    have hq := List.mem_singleton.mp hq
    subst hq
    refine vx_catch hown [] ⟨0, 8, 11, 21⟩ [] htab hp0 (by decide) (by decide) (hts _ qcx_L_21) (hN.use qca_1) hc1 hc2 hc3 ?_
    refine lv_astore_n (lv' := [(3, .ref q9), (0, .ref (h0 0)), (1, .int a1), (2, .ref o)]) hx hb dL_treeBalance_11 rfl hl (by decide) rfl (fun ls hl => ?_)
    refine lv_iconst (v := iI (lawC [1] 1 : Int)) hx hb dL_treeBalance_12 (by decide +kernel) ?_
    exact hIret hx hb hr9 hlocks hP hK hD hS dL_treeBalance_13
  · subst hk
    refine xLast (w2 := fun zz => HW cA ad hr h0 o od zz g s0 s1) hx hb hK hP hD hS 0 2 rfl rfl (x_lit (n := 1) (k := 0) (by decide)) (fun _ => rfl) dL_treeBalance_7 (fun g9 eg9 H locs hP hD hS => ?_)
    subst eg9
    refine lv_goto (tgt := 14) hx hb dL_treeBalance_8 (by decide) ?_
    refine lv_iconst (v := iI (lawC [1] 0 : Int)) hx hb dL_treeBalance_14 (by decide +kernel) ?_
    exact hIret hx hb hr9 hlocks hP hK hD hS dL_treeBalance_15
set_option maxRecDepth 100000 in
set_option maxHeartbeats 4000000 in
theorem h_treeBalanceByParents (l : Launch) (hl9 : l.stackTraces = false) (D : va_G) (cA : Nat → ClassId) (ad : Nat → Nat) (hr : Nat → Nat → Nat) (h0 : Nat → Nat) (o od sz N : Nat) (a1 : Int32) (f : Nat → Int64) (g : Nat → UInt64) (s0 : ThlS) (s1 : Nat → BooS) (k : Nat) (v : Int64) (h : fX12_treeBalanceByParents N a1 s0 = some (k, v)) (hq : k = 0 ∨ k ∈ ([1] : List Nat)) : hM l yL_treeBalanceByParents cL_treeBalanceByParents 4 hh_treeBalanceByParents ({ frames := 8, cells := 1, slots := 6, locals := 132 }) D cA ad (HW cA ad hr h0 o od f g s0 s1) sz [.ref (h0 0), .int a1, .ref o] (some (.int (iI (lawC [1] k : Int)))) (HW cA ad hr h0 o od (fU k f v) g s0 s1) 1 6 := by
  generalize erm : ({ frames := 8, cells := 1, slots := 6, locals := 132 } : Room) = rm
  refine hMet (by decide) (Nat.le_of_ble_eq_true rfl) ?_
  intro p e s m below meth c hx hb hr9 hlocks hml hts hown hK hP A eA hD hS hA hsz hN hE hV hX htab ls hl
  have hl : lv_has ls 4 [(0, .ref (h0 0)), (1, .int a1), (2, .ref o)] := hl
  clear eA
  refine lv_aload_n hx hb dL_treeBalanceByParents_0 rfl (lv_at hl 2 rfl) ?_
  refine lv_iconst (v := 0) hx hb dL_treeBalanceByParents_1 (by decide) ?_
  refine lv_aload_n hx hb dL_treeBalanceByParents_2 rfl (lv_at hl 0 rfl) ?_
  refine lv_iload_n hx hb dL_treeBalanceByParents_3 rfl (lv_at hl 1 rfl) ?_
  refine vCall (w2 := HW cA ad hr h0 o od f g s0 s1) (vRunV (n := 1) (As := [.int a1]) (rest := [.int 0, .ref o]) ⟨hx, hb, hml, hown, hts⟩ (kX12_treeBalanceByParents l hl9 D cA ad hr h0 _ N a1 s0 (k, v) h) qco_X12_treeBalanceByParents qml_L_77 qin_X12_treeBalanceByParents qse_X12_treeBalanceByParents qini_X12 (by decide +kernel) (by rw [← erm]; rfl) hN hE hV hS hA hK hP hD (mid 2 61) (mid_C (A := HA cA o od f g) (B := ThlW cA ad hr h0 s0) (C := RowW cA hr s1) rfl rfl) (mid_nd _ _) (q0 := 0) rfl rfl rfl rfl rfl hl.1 rfl (lv_room (Nat.le_of_ble_eq_true rfl)) dL_treeBalanceByParents_4 ⟨(by rw [← erm]; exact Nat.le_of_ble_eq_true rfl), (by rw [← erm]; exact Nat.le_of_ble_eq_true rfl)⟩) hP hD hS hA (mid 2 61) (mid_C (A := HA cA o od f g) (B := ThlW cA ad hr h0 s0) (C := RowW cA hr s1) rfl rfl) rfl (mid_H (A := HA cA o od f g) (B := ThlW cA ad hr h0 s0) (B' := ThlW cA ad hr h0 s0) (C := RowW cA hr s1) rfl rfl rfl) (fun hne q9 ce H locs hP hD hS hc1 hc2 hc3 => ?_) (fun hk H locs hP hD hS => ?_)
  · rcases hq with hq | hq
    · exact absurd hq hne
    have hq := List.mem_singleton.mp hq
    subst hq
    refine vx_catch hown [] ⟨0, 8, 11, 21⟩ [] htab hp0 (by decide) (by decide) (hts _ qcx_L_21) (hN.use qca_1) hc1 hc2 hc3 ?_
    refine lv_astore_n (lv' := [(3, .ref q9), (0, .ref (h0 0)), (1, .int a1), (2, .ref o)]) hx hb dL_treeBalanceByParents_11 rfl hl (by decide) rfl (fun ls hl => ?_)
    refine lv_iconst (v := iI (lawC [1] 1 : Int)) hx hb dL_treeBalanceByParents_12 (by decide +kernel) ?_
    exact hIret hx hb hr9 hlocks hP hK hD hS dL_treeBalanceByParents_13
  · subst hk
    refine xLast (w2 := fun zz => HW cA ad hr h0 o od zz g s0 s1) hx hb hK hP hD hS 0 2 rfl rfl (x_lit (n := 1) (k := 0) (by decide)) (fun _ => rfl) dL_treeBalanceByParents_7 (fun g9 eg9 H locs hP hD hS => ?_)
    subst eg9
    refine lv_goto (tgt := 14) hx hb dL_treeBalanceByParents_8 (by decide) ?_
    refine lv_iconst (v := iI (lawC [1] 0 : Int)) hx hb dL_treeBalanceByParents_14 (by decide +kernel) ?_
    exact hIret hx hb hr9 hlocks hP hK hD hS dL_treeBalanceByParents_15
set_option maxRecDepth 100000 in
set_option maxHeartbeats 4000000 in
theorem h_treeSize (l : Launch) (hl9 : l.stackTraces = false) (D : va_G) (cA : Nat → ClassId) (ad : Nat → Nat) (hr : Nat → Nat → Nat) (h0 : Nat → Nat) (o od sz N : Nat) (a1 : Int32) (f : Nat → Int64) (g : Nat → UInt64) (s0 : ThlS) (s1 : Nat → BooS) (k : Nat) (v : Int32) (h : fX12_treeSize N a1 s0 = some (k, v)) (hq : k = 0 ∨ k ∈ ([1] : List Nat)) : hM l yL_treeSize cL_treeSize 4 hh_treeSize ({ frames := 8, cells := 1, slots := 6, locals := 132 }) D cA ad (HW cA ad hr h0 o od f g s0 s1) sz [.ref (h0 0), .int a1, .ref o] (some (.int (iI (lawC [1] k : Int)))) (HW cA ad hr h0 o od (fU k f v.toInt64) g s0 s1) 1 6 := by
  generalize erm : ({ frames := 8, cells := 1, slots := 6, locals := 132 } : Room) = rm
  refine hMet (by decide) (Nat.le_of_ble_eq_true rfl) ?_
  intro p e s m below meth c hx hb hr9 hlocks hml hts hown hK hP A eA hD hS hA hsz hN hE hV hX htab ls hl
  have hl : lv_has ls 4 [(0, .ref (h0 0)), (1, .int a1), (2, .ref o)] := hl
  clear eA
  refine lv_aload_n hx hb dL_treeSize_0 rfl (lv_at hl 2 rfl) ?_
  refine lv_iconst (v := 0) hx hb dL_treeSize_1 (by decide) ?_
  refine lv_aload_n hx hb dL_treeSize_2 rfl (lv_at hl 0 rfl) ?_
  refine lv_iload_n hx hb dL_treeSize_3 rfl (lv_at hl 1 rfl) ?_
  refine vCall (w2 := HW cA ad hr h0 o od f g s0 s1) (vRunV (n := 1) (As := [.int a1]) (rest := [.int 0, .ref o]) ⟨hx, hb, hml, hown, hts⟩ (kX12_treeSize l hl9 D cA ad hr h0 _ N a1 s0 (k, v) h) qco_X12_treeSize qml_L_80 qin_X12_treeSize qse_X12_treeSize qini_X12 (by decide +kernel) (by rw [← erm]; rfl) hN hE hV hS hA hK hP hD (mid 2 61) (mid_C (A := HA cA o od f g) (B := ThlW cA ad hr h0 s0) (C := RowW cA hr s1) rfl rfl) (mid_nd _ _) (q0 := 0) rfl rfl rfl rfl rfl hl.1 rfl (lv_room (Nat.le_of_ble_eq_true rfl)) dL_treeSize_4 ⟨(by rw [← erm]; exact Nat.le_of_ble_eq_true rfl), (by rw [← erm]; exact Nat.le_of_ble_eq_true rfl)⟩) hP hD hS hA (mid 2 61) (mid_C (A := HA cA o od f g) (B := ThlW cA ad hr h0 s0) (C := RowW cA hr s1) rfl rfl) rfl (mid_H (A := HA cA o od f g) (B := ThlW cA ad hr h0 s0) (B' := ThlW cA ad hr h0 s0) (C := RowW cA hr s1) rfl rfl rfl) (fun hne q9 ce H locs hP hD hS hc1 hc2 hc3 => ?_) (fun hk H locs hP hD hS => ?_)
  · rcases hq with hq | hq
    · exact absurd hq hne
    have hq := List.mem_singleton.mp hq
    subst hq
    refine vx_catch hown [] ⟨0, 9, 12, 21⟩ [] htab hp0 (by decide) (by decide) (hts _ qcx_L_21) (hN.use qca_1) hc1 hc2 hc3 ?_
    refine lv_astore_n (lv' := [(3, .ref q9), (0, .ref (h0 0)), (1, .int a1), (2, .ref o)]) hx hb dL_treeSize_12 rfl hl (by decide) rfl (fun ls hl => ?_)
    refine lv_iconst (v := iI (lawC [1] 1 : Int)) hx hb dL_treeSize_13 (by decide +kernel) ?_
    exact hIret hx hb hr9 hlocks hP hK hD hS dL_treeSize_14
  · subst hk
    refine lv_i2l (v := v.toInt64) hx hb dL_treeSize_7 rfl ?_
    refine xLast (w2 := fun zz => HW cA ad hr h0 o od zz g s0 s1) hx hb hK hP hD hS 0 2 rfl rfl (x_lit (n := 1) (k := 0) (by decide)) (fun _ => rfl) dL_treeSize_8 (fun g9 eg9 H locs hP hD hS => ?_)
    subst eg9
    refine lv_goto (tgt := 15) hx hb dL_treeSize_9 (by decide) ?_
    refine lv_iconst (v := iI (lawC [1] 0 : Int)) hx hb dL_treeSize_15 (by decide +kernel) ?_
    exact hIret hx hb hr9 hlocks hP hK hD hS dL_treeSize_16
set_option maxRecDepth 100000 in
set_option maxHeartbeats 4000000 in
theorem h_entryAt (l : Launch) (hl9 : l.stackTraces = false) (D : va_G) (cA : Nat → ClassId) (ad : Nat → Nat) (hr : Nat → Nat → Nat) (h0 : Nat → Nat) (o od sz N : Nat) (a1 : Int32) (f : Nat → Int64) (g : Nat → UInt64) (s0 : ThlS) (s1 : Nat → BooS) (k : Nat) (v : Int32) (h : fX12_entryAt N a1 s0 = some (k, v)) (hq : k = 0 ∨ k ∈ ([2] : List Nat)) : hM l yL_entryAt cL_entryAt 4 hh_entryAt ({ frames := 7, cells := 1, slots := 6, locals := 111 }) D cA ad (HW cA ad hr h0 o od f g s0 s1) sz [.ref (h0 0), .int a1, .ref o] (some (.int (iI (lawC [2] k : Int)))) (HW cA ad hr h0 o od (fU k f v.toInt64) g s0 s1) 1 6 := by
  generalize erm : ({ frames := 7, cells := 1, slots := 6, locals := 111 } : Room) = rm
  refine hMet (by decide) (Nat.le_of_ble_eq_true rfl) ?_
  intro p e s m below meth c hx hb hr9 hlocks hml hts hown hK hP A eA hD hS hA hsz hN hE hV hX htab ls hl
  have hl : lv_has ls 4 [(0, .ref (h0 0)), (1, .int a1), (2, .ref o)] := hl
  clear eA
  refine lv_aload_n hx hb dL_entryAt_0 rfl (lv_at hl 2 rfl) ?_
  refine lv_iconst (v := 0) hx hb dL_entryAt_1 (by decide) ?_
  refine lv_aload_n hx hb dL_entryAt_2 rfl (lv_at hl 0 rfl) ?_
  refine lv_iload_n hx hb dL_entryAt_3 rfl (lv_at hl 1 rfl) ?_
  refine vCall (w2 := HW cA ad hr h0 o od f g s0 s1) (vRunV (n := 1) (As := [.int a1]) (rest := [.int 0, .ref o]) ⟨hx, hb, hml, hown, hts⟩ (kX12_entryAt l hl9 D cA ad hr h0 _ N a1 s0 (k, v) h) qco_X12_entryAt qml_L_83 qin_X12_entryAt qse_X12_entryAt qini_X12 (by decide +kernel) (by rw [← erm]; rfl) hN hE hV hS hA hK hP hD (mid 2 61) (mid_C (A := HA cA o od f g) (B := ThlW cA ad hr h0 s0) (C := RowW cA hr s1) rfl rfl) (mid_nd _ _) (q0 := 0) rfl rfl rfl rfl rfl hl.1 rfl (lv_room (Nat.le_of_ble_eq_true rfl)) dL_entryAt_4 ⟨(by rw [← erm]; exact Nat.le_of_ble_eq_true rfl), (by rw [← erm]; exact Nat.le_of_ble_eq_true rfl)⟩) hP hD hS hA (mid 2 61) (mid_C (A := HA cA o od f g) (B := ThlW cA ad hr h0 s0) (C := RowW cA hr s1) rfl rfl) rfl (mid_H (A := HA cA o od f g) (B := ThlW cA ad hr h0 s0) (B' := ThlW cA ad hr h0 s0) (C := RowW cA hr s1) rfl rfl rfl) (fun hne q9 ce H locs hP hD hS hc1 hc2 hc3 => ?_) (fun hk H locs hP hD hS => ?_)
  · rcases hq with hq | hq
    · exact absurd hq hne
    have hq := List.mem_singleton.mp hq
    subst hq
    refine vx_catch hown [] ⟨0, 9, 12, 30⟩ [] htab hp0 (by decide) (by decide) (hts _ qcx_L_30) (hN.use qca_2) hc1 hc2 hc3 ?_
    refine lv_astore_n (lv' := [(3, .ref q9), (0, .ref (h0 0)), (1, .int a1), (2, .ref o)]) hx hb dL_entryAt_12 rfl hl (by decide) rfl (fun ls hl => ?_)
    refine lv_iconst (v := iI (lawC [2] 2 : Int)) hx hb dL_entryAt_13 (by decide +kernel) ?_
    exact hIret hx hb hr9 hlocks hP hK hD hS dL_entryAt_14
  · subst hk
    refine lv_i2l (v := v.toInt64) hx hb dL_entryAt_7 rfl ?_
    refine xLast (w2 := fun zz => HW cA ad hr h0 o od zz g s0 s1) hx hb hK hP hD hS 0 2 rfl rfl (x_lit (n := 1) (k := 0) (by decide)) (fun _ => rfl) dL_entryAt_8 (fun g9 eg9 H locs hP hD hS => ?_)
    subst eg9
    refine lv_goto (tgt := 15) hx hb dL_entryAt_9 (by decide) ?_
    refine lv_iconst (v := iI (lawC [2] 0 : Int)) hx hb dL_entryAt_15 (by decide +kernel) ?_
    exact hIret hx hb hr9 hlocks hP hK hD hS dL_entryAt_16
set_option maxRecDepth 100000 in
set_option maxHeartbeats 4000000 in
theorem h_debitOf (l : Launch) (hl9 : l.stackTraces = false) (D : va_G) (cA : Nat → ClassId) (ad : Nat → Nat) (hr : Nat → Nat → Nat) (h0 : Nat → Nat) (o od sz N : Nat) (a1 : Int32) (f : Nat → Int64) (g : Nat → UInt64) (s0 : ThlS) (s1 : Nat → BooS) (k : Nat) (v : Int32) (h : fX12_debitOf N a1 s0 = some (k, v)) (hq : k = 0 ∨ k ∈ ([2] : List Nat)) : hM l yL_debitOf cL_debitOf 4 hh_debitOf ({ frames := 8, cells := 1, slots := 6, locals := 132 }) D cA ad (HW cA ad hr h0 o od f g s0 s1) sz [.ref (h0 0), .int a1, .ref o] (some (.int (iI (lawC [2] k : Int)))) (HW cA ad hr h0 o od (fU k f v.toInt64) g s0 s1) 1 6 := by
  generalize erm : ({ frames := 8, cells := 1, slots := 6, locals := 132 } : Room) = rm
  refine hMet (by decide) (Nat.le_of_ble_eq_true rfl) ?_
  intro p e s m below meth c hx hb hr9 hlocks hml hts hown hK hP A eA hD hS hA hsz hN hE hV hX htab ls hl
  have hl : lv_has ls 4 [(0, .ref (h0 0)), (1, .int a1), (2, .ref o)] := hl
  clear eA
  refine lv_aload_n hx hb dL_debitOf_0 rfl (lv_at hl 2 rfl) ?_
  refine lv_iconst (v := 0) hx hb dL_debitOf_1 (by decide) ?_
  refine lv_aload_n hx hb dL_debitOf_2 rfl (lv_at hl 0 rfl) ?_
  refine lv_iload_n hx hb dL_debitOf_3 rfl (lv_at hl 1 rfl) ?_
  refine vCall (w2 := HW cA ad hr h0 o od f g s0 s1) (vRunV (n := 1) (As := [.int a1]) (rest := [.int 0, .ref o]) ⟨hx, hb, hml, hown, hts⟩ (kX12_debitOf l hl9 D cA ad hr h0 _ N a1 s0 (k, v) h) qco_X12_debitOf qml_L_86 qin_X12_debitOf qse_X12_debitOf qini_X12 (by decide +kernel) (by rw [← erm]; rfl) hN hE hV hS hA hK hP hD (mid 2 61) (mid_C (A := HA cA o od f g) (B := ThlW cA ad hr h0 s0) (C := RowW cA hr s1) rfl rfl) (mid_nd _ _) (q0 := 0) rfl rfl rfl rfl rfl hl.1 rfl (lv_room (Nat.le_of_ble_eq_true rfl)) dL_debitOf_4 ⟨(by rw [← erm]; exact Nat.le_of_ble_eq_true rfl), (by rw [← erm]; exact Nat.le_of_ble_eq_true rfl)⟩) hP hD hS hA (mid 2 61) (mid_C (A := HA cA o od f g) (B := ThlW cA ad hr h0 s0) (C := RowW cA hr s1) rfl rfl) rfl (mid_H (A := HA cA o od f g) (B := ThlW cA ad hr h0 s0) (B' := ThlW cA ad hr h0 s0) (C := RowW cA hr s1) rfl rfl rfl) (fun hne q9 ce H locs hP hD hS hc1 hc2 hc3 => ?_) (fun hk H locs hP hD hS => ?_)
  · rcases hq with hq | hq
    · exact absurd hq hne
    have hq := List.mem_singleton.mp hq
    subst hq
    refine vx_catch hown [] ⟨0, 9, 12, 30⟩ [] htab hp0 (by decide) (by decide) (hts _ qcx_L_30) (hN.use qca_2) hc1 hc2 hc3 ?_
    refine lv_astore_n (lv' := [(3, .ref q9), (0, .ref (h0 0)), (1, .int a1), (2, .ref o)]) hx hb dL_debitOf_12 rfl hl (by decide) rfl (fun ls hl => ?_)
    refine lv_iconst (v := iI (lawC [2] 2 : Int)) hx hb dL_debitOf_13 (by decide +kernel) ?_
    exact hIret hx hb hr9 hlocks hP hK hD hS dL_debitOf_14
  · subst hk
    refine lv_i2l (v := v.toInt64) hx hb dL_debitOf_7 rfl ?_
    refine xLast (w2 := fun zz => HW cA ad hr h0 o od zz g s0 s1) hx hb hK hP hD hS 0 2 rfl rfl (x_lit (n := 1) (k := 0) (by decide)) (fun _ => rfl) dL_debitOf_8 (fun g9 eg9 H locs hP hD hS => ?_)
    subst eg9
    refine lv_goto (tgt := 15) hx hb dL_debitOf_9 (by decide) ?_
    refine lv_iconst (v := iI (lawC [2] 0 : Int)) hx hb dL_debitOf_15 (by decide +kernel) ?_
    exact hIret hx hb hr9 hlocks hP hK hD hS dL_debitOf_16
set_option maxRecDepth 100000 in
set_option maxHeartbeats 4000000 in
theorem h_creditOf (l : Launch) (hl9 : l.stackTraces = false) (D : va_G) (cA : Nat → ClassId) (ad : Nat → Nat) (hr : Nat → Nat → Nat) (h0 : Nat → Nat) (o od sz N : Nat) (a1 : Int32) (f : Nat → Int64) (g : Nat → UInt64) (s0 : ThlS) (s1 : Nat → BooS) (k : Nat) (v : Int32) (h : fX12_creditOf N a1 s0 = some (k, v)) (hq : k = 0 ∨ k ∈ ([2] : List Nat)) : hM l yL_creditOf cL_creditOf 4 hh_creditOf ({ frames := 8, cells := 1, slots := 6, locals := 132 }) D cA ad (HW cA ad hr h0 o od f g s0 s1) sz [.ref (h0 0), .int a1, .ref o] (some (.int (iI (lawC [2] k : Int)))) (HW cA ad hr h0 o od (fU k f v.toInt64) g s0 s1) 1 6 := by
  generalize erm : ({ frames := 8, cells := 1, slots := 6, locals := 132 } : Room) = rm
  refine hMet (by decide) (Nat.le_of_ble_eq_true rfl) ?_
  intro p e s m below meth c hx hb hr9 hlocks hml hts hown hK hP A eA hD hS hA hsz hN hE hV hX htab ls hl
  have hl : lv_has ls 4 [(0, .ref (h0 0)), (1, .int a1), (2, .ref o)] := hl
  clear eA
  refine lv_aload_n hx hb dL_creditOf_0 rfl (lv_at hl 2 rfl) ?_
  refine lv_iconst (v := 0) hx hb dL_creditOf_1 (by decide) ?_
  refine lv_aload_n hx hb dL_creditOf_2 rfl (lv_at hl 0 rfl) ?_
  refine lv_iload_n hx hb dL_creditOf_3 rfl (lv_at hl 1 rfl) ?_
  refine vCall (w2 := HW cA ad hr h0 o od f g s0 s1) (vRunV (n := 1) (As := [.int a1]) (rest := [.int 0, .ref o]) ⟨hx, hb, hml, hown, hts⟩ (kX12_creditOf l hl9 D cA ad hr h0 _ N a1 s0 (k, v) h) qco_X12_creditOf qml_L_89 qin_X12_creditOf qse_X12_creditOf qini_X12 (by decide +kernel) (by rw [← erm]; rfl) hN hE hV hS hA hK hP hD (mid 2 61) (mid_C (A := HA cA o od f g) (B := ThlW cA ad hr h0 s0) (C := RowW cA hr s1) rfl rfl) (mid_nd _ _) (q0 := 0) rfl rfl rfl rfl rfl hl.1 rfl (lv_room (Nat.le_of_ble_eq_true rfl)) dL_creditOf_4 ⟨(by rw [← erm]; exact Nat.le_of_ble_eq_true rfl), (by rw [← erm]; exact Nat.le_of_ble_eq_true rfl)⟩) hP hD hS hA (mid 2 61) (mid_C (A := HA cA o od f g) (B := ThlW cA ad hr h0 s0) (C := RowW cA hr s1) rfl rfl) rfl (mid_H (A := HA cA o od f g) (B := ThlW cA ad hr h0 s0) (B' := ThlW cA ad hr h0 s0) (C := RowW cA hr s1) rfl rfl rfl) (fun hne q9 ce H locs hP hD hS hc1 hc2 hc3 => ?_) (fun hk H locs hP hD hS => ?_)
  · rcases hq with hq | hq
    · exact absurd hq hne
    have hq := List.mem_singleton.mp hq
    subst hq
    refine vx_catch hown [] ⟨0, 9, 12, 30⟩ [] htab hp0 (by decide) (by decide) (hts _ qcx_L_30) (hN.use qca_2) hc1 hc2 hc3 ?_
    refine lv_astore_n (lv' := [(3, .ref q9), (0, .ref (h0 0)), (1, .int a1), (2, .ref o)]) hx hb dL_creditOf_12 rfl hl (by decide) rfl (fun ls hl => ?_)
    refine lv_iconst (v := iI (lawC [2] 2 : Int)) hx hb dL_creditOf_13 (by decide +kernel) ?_
    exact hIret hx hb hr9 hlocks hP hK hD hS dL_creditOf_14
  · subst hk
    refine lv_i2l (v := v.toInt64) hx hb dL_creditOf_7 rfl ?_
    refine xLast (w2 := fun zz => HW cA ad hr h0 o od zz g s0 s1) hx hb hK hP hD hS 0 2 rfl rfl (x_lit (n := 1) (k := 0) (by decide)) (fun _ => rfl) dL_creditOf_8 (fun g9 eg9 H locs hP hD hS => ?_)
    subst eg9
    refine lv_goto (tgt := 15) hx hb dL_creditOf_9 (by decide) ?_
    refine lv_iconst (v := iI (lawC [2] 0 : Int)) hx hb dL_creditOf_15 (by decide +kernel) ?_
    exact hIret hx hb hr9 hlocks hP hK hD hS dL_creditOf_16
set_option maxRecDepth 100000 in
set_option maxHeartbeats 4000000 in
theorem h_amountOf (l : Launch) (hl9 : l.stackTraces = false) (D : va_G) (cA : Nat → ClassId) (ad : Nat → Nat) (hr : Nat → Nat → Nat) (h0 : Nat → Nat) (o od sz N : Nat) (a1 : Int32) (f : Nat → Int64) (g : Nat → UInt64) (s0 : ThlS) (s1 : Nat → BooS) (k : Nat) (v : Int64) (h : fX12_amountOf N a1 s0 = some (k, v)) (hq : k = 0 ∨ k ∈ ([2] : List Nat)) : hM l yL_amountOf cL_amountOf 4 hh_amountOf ({ frames := 8, cells := 1, slots := 6, locals := 132 }) D cA ad (HW cA ad hr h0 o od f g s0 s1) sz [.ref (h0 0), .int a1, .ref o] (some (.int (iI (lawC [2] k : Int)))) (HW cA ad hr h0 o od (fU k f v) g s0 s1) 1 6 := by
  generalize erm : ({ frames := 8, cells := 1, slots := 6, locals := 132 } : Room) = rm
  refine hMet (by decide) (Nat.le_of_ble_eq_true rfl) ?_
  intro p e s m below meth c hx hb hr9 hlocks hml hts hown hK hP A eA hD hS hA hsz hN hE hV hX htab ls hl
  have hl : lv_has ls 4 [(0, .ref (h0 0)), (1, .int a1), (2, .ref o)] := hl
  clear eA
  refine lv_aload_n hx hb dL_amountOf_0 rfl (lv_at hl 2 rfl) ?_
  refine lv_iconst (v := 0) hx hb dL_amountOf_1 (by decide) ?_
  refine lv_aload_n hx hb dL_amountOf_2 rfl (lv_at hl 0 rfl) ?_
  refine lv_iload_n hx hb dL_amountOf_3 rfl (lv_at hl 1 rfl) ?_
  refine vCall (w2 := HW cA ad hr h0 o od f g s0 s1) (vRunV (n := 1) (As := [.int a1]) (rest := [.int 0, .ref o]) ⟨hx, hb, hml, hown, hts⟩ (kX12_amountOf l hl9 D cA ad hr h0 _ N a1 s0 (k, v) h) qco_X12_amountOf qml_L_92 qin_X12_amountOf qse_X12_amountOf qini_X12 (by decide +kernel) (by rw [← erm]; rfl) hN hE hV hS hA hK hP hD (mid 2 61) (mid_C (A := HA cA o od f g) (B := ThlW cA ad hr h0 s0) (C := RowW cA hr s1) rfl rfl) (mid_nd _ _) (q0 := 0) rfl rfl rfl rfl rfl hl.1 rfl (lv_room (Nat.le_of_ble_eq_true rfl)) dL_amountOf_4 ⟨(by rw [← erm]; exact Nat.le_of_ble_eq_true rfl), (by rw [← erm]; exact Nat.le_of_ble_eq_true rfl)⟩) hP hD hS hA (mid 2 61) (mid_C (A := HA cA o od f g) (B := ThlW cA ad hr h0 s0) (C := RowW cA hr s1) rfl rfl) rfl (mid_H (A := HA cA o od f g) (B := ThlW cA ad hr h0 s0) (B' := ThlW cA ad hr h0 s0) (C := RowW cA hr s1) rfl rfl rfl) (fun hne q9 ce H locs hP hD hS hc1 hc2 hc3 => ?_) (fun hk H locs hP hD hS => ?_)
  · rcases hq with hq | hq
    · exact absurd hq hne
    have hq := List.mem_singleton.mp hq
    subst hq
    refine vx_catch hown [] ⟨0, 8, 11, 30⟩ [] htab hp0 (by decide) (by decide) (hts _ qcx_L_30) (hN.use qca_2) hc1 hc2 hc3 ?_
    refine lv_astore_n (lv' := [(3, .ref q9), (0, .ref (h0 0)), (1, .int a1), (2, .ref o)]) hx hb dL_amountOf_11 rfl hl (by decide) rfl (fun ls hl => ?_)
    refine lv_iconst (v := iI (lawC [2] 2 : Int)) hx hb dL_amountOf_12 (by decide +kernel) ?_
    exact hIret hx hb hr9 hlocks hP hK hD hS dL_amountOf_13
  · subst hk
    refine xLast (w2 := fun zz => HW cA ad hr h0 o od zz g s0 s1) hx hb hK hP hD hS 0 2 rfl rfl (x_lit (n := 1) (k := 0) (by decide)) (fun _ => rfl) dL_amountOf_7 (fun g9 eg9 H locs hP hD hS => ?_)
    subst eg9
    refine lv_goto (tgt := 14) hx hb dL_amountOf_8 (by decide) ?_
    refine lv_iconst (v := iI (lawC [2] 0 : Int)) hx hb dL_amountOf_14 (by decide +kernel) ?_
    exact hIret hx hb hr9 hlocks hP hK hD hS dL_amountOf_15
set_option maxRecDepth 100000 in
set_option maxHeartbeats 4000000 in
theorem h_hourOf (l : Launch) (hl9 : l.stackTraces = false) (D : va_G) (cA : Nat → ClassId) (ad : Nat → Nat) (hr : Nat → Nat → Nat) (h0 : Nat → Nat) (o od sz N : Nat) (a1 : Int32) (f : Nat → Int64) (g : Nat → UInt64) (s0 : ThlS) (s1 : Nat → BooS) (k : Nat) (v : Int32) (h : fX12_hourOf N a1 s0 = some (k, v)) (hq : k = 0 ∨ k ∈ ([2] : List Nat)) : hM l yL_hourOf cL_hourOf 4 hh_hourOf ({ frames := 8, cells := 1, slots := 6, locals := 132 }) D cA ad (HW cA ad hr h0 o od f g s0 s1) sz [.ref (h0 0), .int a1, .ref o] (some (.int (iI (lawC [2] k : Int)))) (HW cA ad hr h0 o od (fU k f v.toInt64) g s0 s1) 1 6 := by
  generalize erm : ({ frames := 8, cells := 1, slots := 6, locals := 132 } : Room) = rm
  refine hMet (by decide) (Nat.le_of_ble_eq_true rfl) ?_
  intro p e s m below meth c hx hb hr9 hlocks hml hts hown hK hP A eA hD hS hA hsz hN hE hV hX htab ls hl
  have hl : lv_has ls 4 [(0, .ref (h0 0)), (1, .int a1), (2, .ref o)] := hl
  clear eA
  refine lv_aload_n hx hb dL_hourOf_0 rfl (lv_at hl 2 rfl) ?_
  refine lv_iconst (v := 0) hx hb dL_hourOf_1 (by decide) ?_
  refine lv_aload_n hx hb dL_hourOf_2 rfl (lv_at hl 0 rfl) ?_
  refine lv_iload_n hx hb dL_hourOf_3 rfl (lv_at hl 1 rfl) ?_
  refine vCall (w2 := HW cA ad hr h0 o od f g s0 s1) (vRunV (n := 1) (As := [.int a1]) (rest := [.int 0, .ref o]) ⟨hx, hb, hml, hown, hts⟩ (kX12_hourOf l hl9 D cA ad hr h0 _ N a1 s0 (k, v) h) qco_X12_hourOf qml_L_95 qin_X12_hourOf qse_X12_hourOf qini_X12 (by decide +kernel) (by rw [← erm]; rfl) hN hE hV hS hA hK hP hD (mid 2 61) (mid_C (A := HA cA o od f g) (B := ThlW cA ad hr h0 s0) (C := RowW cA hr s1) rfl rfl) (mid_nd _ _) (q0 := 0) rfl rfl rfl rfl rfl hl.1 rfl (lv_room (Nat.le_of_ble_eq_true rfl)) dL_hourOf_4 ⟨(by rw [← erm]; exact Nat.le_of_ble_eq_true rfl), (by rw [← erm]; exact Nat.le_of_ble_eq_true rfl)⟩) hP hD hS hA (mid 2 61) (mid_C (A := HA cA o od f g) (B := ThlW cA ad hr h0 s0) (C := RowW cA hr s1) rfl rfl) rfl (mid_H (A := HA cA o od f g) (B := ThlW cA ad hr h0 s0) (B' := ThlW cA ad hr h0 s0) (C := RowW cA hr s1) rfl rfl rfl) (fun hne q9 ce H locs hP hD hS hc1 hc2 hc3 => ?_) (fun hk H locs hP hD hS => ?_)
  · rcases hq with hq | hq
    · exact absurd hq hne
    have hq := List.mem_singleton.mp hq
    subst hq
    refine vx_catch hown [] ⟨0, 9, 12, 30⟩ [] htab hp0 (by decide) (by decide) (hts _ qcx_L_30) (hN.use qca_2) hc1 hc2 hc3 ?_
    refine lv_astore_n (lv' := [(3, .ref q9), (0, .ref (h0 0)), (1, .int a1), (2, .ref o)]) hx hb dL_hourOf_12 rfl hl (by decide) rfl (fun ls hl => ?_)
    refine lv_iconst (v := iI (lawC [2] 2 : Int)) hx hb dL_hourOf_13 (by decide +kernel) ?_
    exact hIret hx hb hr9 hlocks hP hK hD hS dL_hourOf_14
  · subst hk
    refine lv_i2l (v := v.toInt64) hx hb dL_hourOf_7 rfl ?_
    refine xLast (w2 := fun zz => HW cA ad hr h0 o od zz g s0 s1) hx hb hK hP hD hS 0 2 rfl rfl (x_lit (n := 1) (k := 0) (by decide)) (fun _ => rfl) dL_hourOf_8 (fun g9 eg9 H locs hP hD hS => ?_)
    subst eg9
    refine lv_goto (tgt := 15) hx hb dL_hourOf_9 (by decide) ?_
    refine lv_iconst (v := iI (lawC [2] 0 : Int)) hx hb dL_hourOf_15 (by decide +kernel) ?_
    exact hIret hx hb hr9 hlocks hP hK hD hS dL_hourOf_16
set_option maxRecDepth 100000 in
set_option maxHeartbeats 4000000 in
theorem h_isReversed (l : Launch) (hl9 : l.stackTraces = false) (D : va_G) (cA : Nat → ClassId) (ad : Nat → Nat) (hr : Nat → Nat → Nat) (h0 : Nat → Nat) (o od sz N : Nat) (a1 : Int32) (f : Nat → Int64) (g : Nat → UInt64) (s0 : ThlS) (s1 : Nat → BooS) (k : Nat) (v : Int32) (h : fX12_isReversed N a1 s0 = some (k, v)) (hq : k = 0 ∨ k ∈ ([2] : List Nat)) : hM l yL_isReversed cL_isReversed 4 hh_isReversed ({ frames := 8, cells := 1, slots := 6, locals := 132 }) D cA ad (HW cA ad hr h0 o od f g s0 s1) sz [.ref (h0 0), .int a1, .ref o] (some (.int (iI (lawC [2] k : Int)))) (HW cA ad hr h0 o od (fU k f (hB v)) g s0 s1) 1 6 := by
  generalize erm : ({ frames := 8, cells := 1, slots := 6, locals := 132 } : Room) = rm
  refine hMet (by decide) (Nat.le_of_ble_eq_true rfl) ?_
  intro p e s m below meth c hx hb hr9 hlocks hml hts hown hK hP A eA hD hS hA hsz hN hE hV hX htab ls hl
  have hl : lv_has ls 4 [(0, .ref (h0 0)), (1, .int a1), (2, .ref o)] := hl
  clear eA
  refine lv_aload_n hx hb dL_isReversed_0 rfl (lv_at hl 2 rfl) ?_
  refine lv_iconst (v := 0) hx hb dL_isReversed_1 (by decide) ?_
  refine lv_aload_n hx hb dL_isReversed_2 rfl (lv_at hl 0 rfl) ?_
  refine lv_iload_n hx hb dL_isReversed_3 rfl (lv_at hl 1 rfl) ?_
  refine vCall (w2 := HW cA ad hr h0 o od f g s0 s1) (vRunV (n := 1) (As := [.int a1]) (rest := [.int 0, .ref o]) ⟨hx, hb, hml, hown, hts⟩ (kX12_isReversed l hl9 D cA ad hr h0 _ N a1 s0 (k, v) h) qco_X12_isReversed qml_L_98 qin_X12_isReversed qse_X12_isReversed qini_X12 (by decide +kernel) (by rw [← erm]; rfl) hN hE hV hS hA hK hP hD (mid 2 61) (mid_C (A := HA cA o od f g) (B := ThlW cA ad hr h0 s0) (C := RowW cA hr s1) rfl rfl) (mid_nd _ _) (q0 := 0) rfl rfl rfl rfl rfl hl.1 rfl (lv_room (Nat.le_of_ble_eq_true rfl)) dL_isReversed_4 ⟨(by rw [← erm]; exact Nat.le_of_ble_eq_true rfl), (by rw [← erm]; exact Nat.le_of_ble_eq_true rfl)⟩) hP hD hS hA (mid 2 61) (mid_C (A := HA cA o od f g) (B := ThlW cA ad hr h0 s0) (C := RowW cA hr s1) rfl rfl) rfl (mid_H (A := HA cA o od f g) (B := ThlW cA ad hr h0 s0) (B' := ThlW cA ad hr h0 s0) (C := RowW cA hr s1) rfl rfl rfl) (fun hne q9 ce H locs hP hD hS hc1 hc2 hc3 => ?_) (fun hk H locs hP hD hS => ?_)
  · rcases hq with hq | hq
    · exact absurd hq hne
    have hq := List.mem_singleton.mp hq
    subst hq
    refine vx_catch hown [] ⟨0, 16, 19, 30⟩ [] htab hp0 (by decide) (by decide) (hts _ qcx_L_30) (hN.use qca_2) hc1 hc2 hc3 ?_
    refine lv_astore_n (lv' := [(3, .ref q9), (0, .ref (h0 0)), (1, .int a1), (2, .ref o)]) hx hb dL_isReversed_19 rfl hl (by decide) rfl (fun ls hl => ?_)
    refine lv_iconst (v := iI (lawC [2] 2 : Int)) hx hb dL_isReversed_20 (by decide +kernel) ?_
    exact hIret hx hb hr9 hlocks hP hK hD hS dL_isReversed_21
  · subst hk
    refine lv_if_eq (tgt := 14) hx hb dL_isReversed_7 (by decide) (fun c0 => ?_) (fun c0 => ?_)
    · refine lv_lconst (v := hB v) hx hb dL_isReversed_14 (by rw [hB, if_pos c0]; decide) ?_
      refine xLast (w2 := fun zz => HW cA ad hr h0 o od zz g s0 s1) hx hb hK hP hD hS 0 2 rfl rfl (x_lit (n := 1) (k := 0) (by decide)) (fun _ => rfl) dL_isReversed_15 (fun g9 eg9 H locs hP hD hS => ?_)
      subst eg9
      refine lv_goto (tgt := 22) hx hb dL_isReversed_16 (by decide) ?_
      refine lv_iconst (v := iI (lawC [2] 0 : Int)) hx hb dL_isReversed_22 (by decide +kernel) ?_
      exact hIret hx hb hr9 hlocks hP hK hD hS dL_isReversed_23
    · refine lv_lconst (v := hB v) hx hb dL_isReversed_10 (by rw [hB, if_neg c0]; decide) ?_
      refine lv_goto (tgt := 15) hx hb dL_isReversed_11 (by decide) ?_
      refine xLast (w2 := fun zz => HW cA ad hr h0 o od zz g s0 s1) hx hb hK hP hD hS 0 2 rfl rfl (x_lit (n := 1) (k := 0) (by decide)) (fun _ => rfl) dL_isReversed_15 (fun g9 eg9 H locs hP hD hS => ?_)
      subst eg9
      refine lv_goto (tgt := 22) hx hb dL_isReversed_16 (by decide) ?_
      refine lv_iconst (v := iI (lawC [2] 0 : Int)) hx hb dL_isReversed_22 (by decide +kernel) ?_
      exact hIret hx hb hr9 hlocks hP hK hD hS dL_isReversed_23
set_option maxRecDepth 100000 in
set_option maxHeartbeats 4000000 in
theorem h_hoursUntilPrompt (l : Launch) (hl9 : l.stackTraces = false) (D : va_G) (cA : Nat → ClassId) (ad : Nat → Nat) (hr : Nat → Nat → Nat) (h0 : Nat → Nat) (o od sz N : Nat) (a1 : Int32) (f : Nat → Int64) (g : Nat → UInt64) (s0 : ThlS) (s1 : Nat → BooS) (k : Nat) (v : Int32) (h : fX12_hoursUntilPrompt N a1 s0 = some (k, v)) (hq : k = 0 ∨ k ∈ ([1] : List Nat)) : hM l yL_hoursUntilPrompt cL_hoursUntilPrompt 4 hh_hoursUntilPrompt ({ frames := 8, cells := 1, slots := 6, locals := 132 }) D cA ad (HW cA ad hr h0 o od f g s0 s1) sz [.ref (h0 0), .int a1, .ref o] (some (.int (iI (lawC [1] k : Int)))) (HW cA ad hr h0 o od (fU k f v.toInt64) g s0 s1) 1 6 := by
  generalize erm : ({ frames := 8, cells := 1, slots := 6, locals := 132 } : Room) = rm
  refine hMet (by decide) (Nat.le_of_ble_eq_true rfl) ?_
  intro p e s m below meth c hx hb hr9 hlocks hml hts hown hK hP A eA hD hS hA hsz hN hE hV hX htab ls hl
  have hl : lv_has ls 4 [(0, .ref (h0 0)), (1, .int a1), (2, .ref o)] := hl
  clear eA
  refine lv_aload_n hx hb dL_hoursUntilPrompt_0 rfl (lv_at hl 2 rfl) ?_
  refine lv_iconst (v := 0) hx hb dL_hoursUntilPrompt_1 (by decide) ?_
  refine lv_aload_n hx hb dL_hoursUntilPrompt_2 rfl (lv_at hl 0 rfl) ?_
  refine lv_iload_n hx hb dL_hoursUntilPrompt_3 rfl (lv_at hl 1 rfl) ?_
  refine vCall (w2 := HW cA ad hr h0 o od f g s0 s1) (vRunV (n := 1) (As := [.int a1]) (rest := [.int 0, .ref o]) ⟨hx, hb, hml, hown, hts⟩ (kX12_hoursUntilPrompt l hl9 D cA ad hr h0 _ N a1 s0 (k, v) h) qco_X12_hoursUntilPrompt qml_L_102 qin_X12_hoursUntilPrompt qse_X12_hoursUntilPrompt qini_X12 (by decide +kernel) (by rw [← erm]; rfl) hN hE hV hS hA hK hP hD (mid 2 61) (mid_C (A := HA cA o od f g) (B := ThlW cA ad hr h0 s0) (C := RowW cA hr s1) rfl rfl) (mid_nd _ _) (q0 := 0) rfl rfl rfl rfl rfl hl.1 rfl (lv_room (Nat.le_of_ble_eq_true rfl)) dL_hoursUntilPrompt_4 ⟨(by rw [← erm]; exact Nat.le_of_ble_eq_true rfl), (by rw [← erm]; exact Nat.le_of_ble_eq_true rfl)⟩) hP hD hS hA (mid 2 61) (mid_C (A := HA cA o od f g) (B := ThlW cA ad hr h0 s0) (C := RowW cA hr s1) rfl rfl) rfl (mid_H (A := HA cA o od f g) (B := ThlW cA ad hr h0 s0) (B' := ThlW cA ad hr h0 s0) (C := RowW cA hr s1) rfl rfl rfl) (fun hne q9 ce H locs hP hD hS hc1 hc2 hc3 => ?_) (fun hk H locs hP hD hS => ?_)
  · rcases hq with hq | hq
    · exact absurd hq hne
    have hq := List.mem_singleton.mp hq
    subst hq
    refine vx_catch hown [] ⟨0, 9, 12, 21⟩ [] htab hp0 (by decide) (by decide) (hts _ qcx_L_21) (hN.use qca_1) hc1 hc2 hc3 ?_
    refine lv_astore_n (lv' := [(3, .ref q9), (0, .ref (h0 0)), (1, .int a1), (2, .ref o)]) hx hb dL_hoursUntilPrompt_12 rfl hl (by decide) rfl (fun ls hl => ?_)
    refine lv_iconst (v := iI (lawC [1] 1 : Int)) hx hb dL_hoursUntilPrompt_13 (by decide +kernel) ?_
    exact hIret hx hb hr9 hlocks hP hK hD hS dL_hoursUntilPrompt_14
  · subst hk
    refine lv_i2l (v := v.toInt64) hx hb dL_hoursUntilPrompt_7 rfl ?_
    refine xLast (w2 := fun zz => HW cA ad hr h0 o od zz g s0 s1) hx hb hK hP hD hS 0 2 rfl rfl (x_lit (n := 1) (k := 0) (by decide)) (fun _ => rfl) dL_hoursUntilPrompt_8 (fun g9 eg9 H locs hP hD hS => ?_)
    subst eg9
    refine lv_goto (tgt := 15) hx hb dL_hoursUntilPrompt_9 (by decide) ?_
    refine lv_iconst (v := iI (lawC [1] 0 : Int)) hx hb dL_hoursUntilPrompt_15 (by decide +kernel) ?_
    exact hIret hx hb hr9 hlocks hP hK hD hS dL_hoursUntilPrompt_16
