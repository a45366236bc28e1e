/-! helpers -/
set_option maxRecDepth 100000 in
set_option maxHeartbeats 4000000 in
theorem h_post (l : Launch) (hl9 : l.stackTraces = false) (D : va_G) (cA : Nat → ClassId) (ad : Nat → Nat) (hr : Nat → Nat → Nat) (h0 : Nat → Nat) (o od sz N : Nat) (a1 : Int32) (a2 : Int32) (a3 : Int32) (f : Nat → Int64) (g : Nat → UInt64) (s0 : ThlS) (s1 : Nat → BooS) (k : Nat) (v : Int32) (t9 : ThlS) (r9 : Nat → BooS) (h : fX12_post N a1 a2 a3 s0 s1 = some (k, v, t9, r9)) (hq : k = 0 ∨ k ∈ ([1, 3] : List Nat)) : hM l yL_post cL_post 6 hh_post ({ frames := 8, cells := 1, slots := 6, locals := 146 }) D cA ad (HW cA ad hr h0 o od f g s0 s1) sz [.ref (h0 0), .int a1, .int a2, .int a3, .ref o] (some (.int (iI (lawC [1, 3] k : Int)))) (HW cA ad hr h0 o od (fU k f v.toInt64) g t9 r9) 1 6 := by
  generalize erm : ({ frames := 8, cells := 1, slots := 6, locals := 146 } : Room) = rm
  refine hMet (by decide) (Nat.le_of_ble_eq_true rfl) ?_
  intro p e s m below meth c hx hb hr9 hlocks hml hts hown hK hP A eA hD hS hA hsz hN hE hV hX htab ls hl
  have hl : lv_has ls 6 [(0, .ref (h0 0)), (1, .int a1), (2, .int a2), (3, .int a3), (4, .ref o)] := hl
  clear eA
  refine lv_aload hx hb dL_post_0 (lv_at hl 4 rfl) ?_
  refine lv_iconst (v := 0) hx hb dL_post_2 (by decide) ?_
  refine lv_aload_n hx hb dL_post_3 rfl (lv_at hl 0 rfl) ?_
  refine lv_iload_n hx hb dL_post_4 rfl (lv_at hl 1 rfl) ?_
  refine lv_iload_n hx hb dL_post_5 rfl (lv_at hl 2 rfl) ?_
  refine lv_iload_n hx hb dL_post_6 rfl (lv_at hl 3 rfl) ?_
  refine vCall (w2 := HW cA ad hr h0 o od f g t9 r9) (vRunV (n := 3) (As := [.int a1, .int a2, .int a3]) (rest := [.int 0, .ref o]) ⟨hx, hb, hml, hown, hts⟩ (kX12_post l hl9 D cA ad hr h0 _ N a1 a2 a3 s0 s1 (k, v, t9, r9) h) qco_X12_post qml_L_23 qin_X12_post qse_X12_post qini_X12 (by decide +kernel) (by rw [← erm]; rfl) hN hE hV hS hA hK hP hD (mid 2 286) (mid_C0 (A := HA cA o od f g) (B := ThlW cA ad hr h0 s0 ++ RowW cA hr s1) rfl (TR_len cA ad hr h0 s0 s1)) (mid_nd _ _) (q0 := 0) rfl rfl rfl rfl rfl hl.1 rfl (lv_room (Nat.le_of_ble_eq_true rfl)) dL_post_7 ⟨(by rw [← erm]; exact Nat.le_of_ble_eq_true rfl), (by rw [← erm]; exact Nat.le_of_ble_eq_true rfl)⟩) hP hD hS hA (mid 2 286) (mid_C0 (A := HA cA o od f g) (B := ThlW cA ad hr h0 s0 ++ RowW cA hr s1) rfl (TR_len cA ad hr h0 s0 s1)) (TR_fst cA ad hr h0 t9 s0 r9 s1) (mid_H0 (A := HA cA o od f g) (B := ThlW cA ad hr h0 s0 ++ RowW cA hr s1) (B' := ThlW cA ad hr h0 t9 ++ RowW cA hr r9) rfl (TR_len cA ad hr h0 s0 s1) (TR_len cA ad hr h0 t9 r9)) (fun hne q9 ce H locs hP hD hS hc1 hc2 hc3 => ?_) (fun hk H locs hP hD hS => ?_)
  · rcases hq with hq | hq
    · exact absurd hq hne
    rcases List.mem_cons.mp hq with hq | hq
    · subst hq
      refine vx_catch hown [] ⟨0, 12, 15, 21⟩ [⟨0, 12, 19, 13⟩] htab hp0 (by decide) (by decide) (hts _ qcx_L_21) (hN.use qca_1) hc1 hc2 hc3 ?_
      refine lv_astore (lv' := [(5, .ref q9), (0, .ref (h0 0)), (1, .int a1), (2, .int a2), (3, .int a3), (4, .ref o)]) hx hb dL_post_15 hl (by decide) rfl (fun ls hl => ?_)
      refine lv_iconst (v := iI (lawC [1, 3] 1 : Int)) hx hb dL_post_17 (by decide +kernel) ?_
      exact hIret hx hb hr9 hlocks hP hK hD hS dL_post_18
    have hq := List.mem_singleton.mp hq
    subst hq
    refine vx_catch hown [⟨0, 12, 15, 21⟩] ⟨0, 12, 19, 13⟩ [] htab (hpc (.inr ⟨by decide, xEx 1, hts _ qcx_L_21, hX 2 0 (by decide) (by decide) (by decide)⟩) hp0) (by decide) (by decide) (hts _ qcx_L_13) (hN.use qca_3) hc1 hc2 hc3 ?_
    refine lv_astore (lv' := [(5, .ref q9), (0, .ref (h0 0)), (1, .int a1), (2, .int a2), (3, .int a3), (4, .ref o)]) hx hb dL_post_19 hl (by decide) rfl (fun ls hl => ?_)
    refine lv_iconst (v := iI (lawC [1, 3] 3 : Int)) hx hb dL_post_21 (by decide +kernel) ?_
    exact hIret hx hb hr9 hlocks hP hK hD hS dL_post_22
  · subst hk
    refine lv_i2l (v := v.toInt64) hx hb dL_post_10 rfl ?_
    refine xLast (w2 := fun zz => HW cA ad hr h0 o od zz g t9 r9) hx hb hK hP hD hS 0 2 rfl rfl (x_lit (n := 1) (k := 0) (by decide)) (fun _ => rfl) dL_post_11 (fun g9 eg9 H locs hP hD hS => ?_)
    subst eg9
    refine lv_goto (tgt := 23) hx hb dL_post_12 (by decide) ?_
    refine lv_iconst (v := iI (lawC [1, 3] 0 : Int)) hx hb dL_post_23 (by decide +kernel) ?_
    exact hIret hx hb hr9 hlocks hP hK hD hS dL_post_24
set_option maxRecDepth 100000 in
set_option maxHeartbeats 4000000 in
theorem h_reverse (l : Launch) (hl9 : l.stackTraces = false) (D : va_G) (cA : Nat → ClassId) (ad : Nat → Nat) (hr : Nat → Nat → Nat) (h0 : Nat → Nat) (o od sz N : Nat) (a1 : Int32) (f : Nat → Int64) (g : Nat → UInt64) (s0 : ThlS) (s1 : Nat → BooS) (k : Nat) (v : Int32) (t9 : ThlS) (r9 : Nat → BooS) (h : fX12_reverse N a1 s0 s1 = some (k, v, t9, r9)) (hq : k = 0 ∨ k ∈ ([2, 4] : List Nat)) : hM l yL_reverse cL_reverse 4 hh_reverse ({ frames := 8, cells := 1, slots := 6, locals := 144 }) D cA ad (HW cA ad hr h0 o od f g s0 s1) sz [.ref (h0 0), .int a1, .ref o] (some (.int (iI (lawC [2, 4] k : Int)))) (HW cA ad hr h0 o od (fU k f v.toInt64) g t9 r9) 1 6 := by
  generalize erm : ({ frames := 8, cells := 1, slots := 6, locals := 144 } : Room) = rm
  refine hMet (by decide) (Nat.le_of_ble_eq_true rfl) ?_
  intro p e s m below meth c hx hb hr9 hlocks hml hts hown hK hP A eA hD hS hA hsz hN hE hV hX htab ls hl
  have hl : lv_has ls 4 [(0, .ref (h0 0)), (1, .int a1), (2, .ref o)] := hl
  clear eA
  refine lv_aload_n hx hb dL_reverse_0 rfl (lv_at hl 2 rfl) ?_
  refine lv_iconst (v := 0) hx hb dL_reverse_1 (by decide) ?_
  refine lv_aload_n hx hb dL_reverse_2 rfl (lv_at hl 0 rfl) ?_
  refine lv_iload_n hx hb dL_reverse_3 rfl (lv_at hl 1 rfl) ?_
  refine vCall (w2 := HW cA ad hr h0 o od f g t9 r9) (vRunV (n := 1) (As := [.int a1]) (rest := [.int 0, .ref o]) ⟨hx, hb, hml, hown, hts⟩ (kX12_reverse l hl9 D cA ad hr h0 _ N a1 s0 s1 (k, v, t9, r9) h) qco_X12_reverse qml_L_27 qin_X12_reverse qse_X12_reverse qini_X12 (by decide +kernel) (by rw [← erm]; rfl) hN hE hV hS hA hK hP hD (mid 2 286) (mid_C0 (A := HA cA o od f g) (B := ThlW cA ad hr h0 s0 ++ RowW cA hr s1) rfl (TR_len cA ad hr h0 s0 s1)) (mid_nd _ _) (q0 := 0) rfl rfl rfl rfl rfl hl.1 rfl (lv_room (Nat.le_of_ble_eq_true rfl)) dL_reverse_4 ⟨(by rw [← erm]; exact Nat.le_of_ble_eq_true rfl), (by rw [← erm]; exact Nat.le_of_ble_eq_true rfl)⟩) hP hD hS hA (mid 2 286) (mid_C0 (A := HA cA o od f g) (B := ThlW cA ad hr h0 s0 ++ RowW cA hr s1) rfl (TR_len cA ad hr h0 s0 s1)) (TR_fst cA ad hr h0 t9 s0 r9 s1) (mid_H0 (A := HA cA o od f g) (B := ThlW cA ad hr h0 s0 ++ RowW cA hr s1) (B' := ThlW cA ad hr h0 t9 ++ RowW cA hr r9) rfl (TR_len cA ad hr h0 s0 s1) (TR_len cA ad hr h0 t9 r9)) (fun hne q9 ce H locs hP hD hS hc1 hc2 hc3 => ?_) (fun hk H locs hP hD hS => ?_)
  · rcases hq with hq | hq
    · exact absurd hq hne
    rcases List.mem_cons.mp hq with hq | hq
    · subst hq
      refine vx_catch hown [] ⟨0, 9, 12, 30⟩ [⟨0, 9, 15, 15⟩] htab hp0 (by decide) (by decide) (hts _ qcx_L_30) (hN.use qca_2) hc1 hc2 hc3 ?_
      refine lv_astore_n (lv' := [(3, .ref q9), (0, .ref (h0 0)), (1, .int a1), (2, .ref o)]) hx hb dL_reverse_12 rfl hl (by decide) rfl (fun ls hl => ?_)
      refine lv_iconst (v := iI (lawC [2, 4] 2 : Int)) hx hb dL_reverse_13 (by decide +kernel) ?_
      exact hIret hx hb hr9 hlocks hP hK hD hS dL_reverse_14
    have hq := List.mem_singleton.mp hq
    subst hq
    refine vx_catch hown [⟨0, 9, 12, 30⟩] ⟨0, 9, 15, 15⟩ [] htab (hpc (.inr ⟨by decide, xEx 2, hts _ qcx_L_30, hX 3 1 (by decide) (by decide) (by decide)⟩) hp0) (by decide) (by decide) (hts _ qcx_L_15) (hN.use qca_4) hc1 hc2 hc3 ?_
    refine lv_astore_n (lv' := [(3, .ref q9), (0, .ref (h0 0)), (1, .int a1), (2, .ref o)]) hx hb dL_reverse_15 rfl hl (by decide) rfl (fun ls hl => ?_)
    refine lv_iconst (v := iI (lawC [2, 4] 4 : Int)) hx hb dL_reverse_16 (by decide +kernel) ?_
    exact hIret hx hb hr9 hlocks hP hK hD hS dL_reverse_17
  · subst hk
    refine lv_i2l (v := v.toInt64) hx hb dL_reverse_7 rfl ?_
    refine xLast (w2 := fun zz => HW cA ad hr h0 o od zz g t9 r9) hx hb hK hP hD hS 0 2 rfl rfl (x_lit (n := 1) (k := 0) (by decide)) (fun _ => rfl) dL_reverse_8 (fun g9 eg9 H locs hP hD hS => ?_)
    subst eg9
    refine lv_goto (tgt := 18) hx hb dL_reverse_9 (by decide) ?_
    refine lv_iconst (v := iI (lawC [2, 4] 0 : Int)) hx hb dL_reverse_18 (by decide +kernel) ?_
    exact hIret hx hb hr9 hlocks hP hK hD hS dL_reverse_19
set_option maxRecDepth 100000 in
set_option maxHeartbeats 4000000 in
theorem h_prompt (l : Launch) (hl9 : l.stackTraces = false) (D : va_G) (cA : Nat → ClassId) (ad : Nat → Nat) (hr : Nat → Nat → Nat) (h0 : Nat → Nat) (o od sz N : Nat) (a1 : Int32) (a2 : Int32) (a3 : Int32) (a4 : Int32) (a5 : Int32) (f : Nat → Int64) (g : Nat → UInt64) (s0 : ThlS) (s1 : Nat → BooS) (k : Nat) (v : Int32) (t9 : ThlS) (r9 : Nat → BooS) (h : fX12_prompt N a1 a2 a3 a4 a5 s0 s1 = some (k, v, t9, r9)) (hq : k = 0 ∨ k ∈ ([1, 3, 4] : List Nat)) : hM l yL_prompt cL_prompt 8 hh_prompt ({ frames := 8, cells := 2, slots := 12, locals := 148 }) D cA ad (HW cA ad hr h0 o od f g s0 s1) sz [.ref (h0 0), .int a1, .int a2, .int a3, .int a4, .int a5, .ref o] (some (.int (iI (lawC [1, 3, 4] k : Int)))) (HW cA ad hr h0 o od (fU k f v.toInt64) g t9 r9) 2 12 := by
  generalize erm : ({ frames := 8, cells := 2, slots := 12, locals := 148 } : Room) = rm
  refine hMet (by decide) (Nat.le_of_ble_eq_true rfl) ?_
  intro p e s m below meth c hx hb hr9 hlocks hml hts hown hK hP A eA hD hS hA hsz hN hE hV hX htab ls hl
  have hl : lv_has ls 8 [(0, .ref (h0 0)), (1, .int a1), (2, .int a2), (3, .int a3), (4, .int a4), (5, .int a5), (6, .ref o)] := hl
  clear eA
  refine lv_aload hx hb dL_prompt_0 (lv_at hl 6 rfl) ?_
  refine lv_iconst (v := 0) hx hb dL_prompt_2 (by decide) ?_
  refine lv_aload_n hx hb dL_prompt_3 rfl (lv_at hl 0 rfl) ?_
  refine lv_iload_n hx hb dL_prompt_4 rfl (lv_at hl 1 rfl) ?_
  refine lv_iload_n hx hb dL_prompt_5 rfl (lv_at hl 2 rfl) ?_
  refine lv_iload_n hx hb dL_prompt_6 rfl (lv_at hl 3 rfl) ?_
  refine lv_iload hx hb dL_prompt_7 (lv_at hl 4 rfl) ?_
  refine lv_iload hx hb dL_prompt_9 (lv_at hl 5 rfl) ?_
  refine vCall (w2 := HW cA ad hr h0 o od f g t9 r9) (vRunV (n := 5) (As := [.int a1, .int a2, .int a3, .int a4, .int a5]) (rest := [.int 0, .ref o]) ⟨hx, hb, hml, hown, hts⟩ (kX12_prompt l hl9 D cA ad hr h0 _ N a1 a2 a3 a4 a5 s0 s1 (k, v, t9, r9) h) qco_X12_prompt qml_L_32 qin_X12_prompt qse_X12_prompt qini_X12 (by decide +kernel) (by rw [← erm]; rfl) hN hE hV hS hA hK hP hD (mid 2 286) (mid_C0 (A := HA cA o od f g) (B := ThlW cA ad hr h0 s0 ++ RowW cA hr s1) rfl (TR_len cA ad hr h0 s0 s1)) (mid_nd _ _) (q0 := 0) rfl rfl rfl rfl rfl hl.1 rfl (lv_room (Nat.le_of_ble_eq_true rfl)) dL_prompt_11 ⟨(by rw [← erm]; exact Nat.le_of_ble_eq_true rfl), (by rw [← erm]; exact Nat.le_of_ble_eq_true rfl)⟩) hP hD hS hA (mid 2 286) (mid_C0 (A := HA cA o od f g) (B := ThlW cA ad hr h0 s0 ++ RowW cA hr s1) rfl (TR_len cA ad hr h0 s0 s1)) (TR_fst cA ad hr h0 t9 s0 r9 s1) (mid_H0 (A := HA cA o od f g) (B := ThlW cA ad hr h0 s0 ++ RowW cA hr s1) (B' := ThlW cA ad hr h0 t9 ++ RowW cA hr r9) rfl (TR_len cA ad hr h0 s0 s1) (TR_len cA ad hr h0 t9 r9)) (fun hne q9 ce H locs hP hD hS hc1 hc2 hc3 => ?_) (fun hk H locs hP hD hS => ?_)
  · rcases hq with hq | hq
    · exact absurd hq hne
    rcases List.mem_cons.mp hq with hq | hq
    · subst hq
      refine vx_catch hown [] ⟨0, 16, 19, 21⟩ [⟨0, 16, 23, 13⟩, ⟨0, 16, 27, 15⟩] htab hp0 (by decide) (by decide) (hts _ qcx_L_21) (hN.use qca_1) hc1 hc2 hc3 ?_
      refine lv_astore (lv' := [(7, .ref q9), (0, .ref (h0 0)), (1, .int a1), (2, .int a2), (3, .int a3), (4, .int a4), (5, .int a5), (6, .ref o)]) hx hb dL_prompt_19 hl (by decide) rfl (fun ls hl => ?_)
      refine lv_iconst (v := iI (lawC [1, 3, 4] 1 : Int)) hx hb dL_prompt_21 (by decide +kernel) ?_
      exact hIret hx hb hr9 hlocks hP hK hD hS dL_prompt_22
    rcases List.mem_cons.mp hq with hq | hq
    · subst hq
      refine vx_catch hown [⟨0, 16, 19, 21⟩] ⟨0, 16, 23, 13⟩ [⟨0, 16, 27, 15⟩] htab (hpc (.inr ⟨by decide, xEx 1, hts _ qcx_L_21, hX 2 0 (by decide) (by decide) (by decide)⟩) hp0) (by decide) (by decide) (hts _ qcx_L_13) (hN.use qca_3) hc1 hc2 hc3 ?_
      refine lv_astore (lv' := [(7, .ref q9), (0, .ref (h0 0)), (1, .int a1), (2, .int a2), (3, .int a3), (4, .int a4), (5, .int a5), (6, .ref o)]) hx hb dL_prompt_23 hl (by decide) rfl (fun ls hl => ?_)
      refine lv_iconst (v := iI (lawC [1, 3, 4] 3 : Int)) hx hb dL_prompt_25 (by decide +kernel) ?_
      exact hIret hx hb hr9 hlocks hP hK hD hS dL_prompt_26
    have hq := List.mem_singleton.mp hq
    subst hq
    refine vx_catch hown [⟨0, 16, 19, 21⟩, ⟨0, 16, 23, 13⟩] ⟨0, 16, 27, 15⟩ [] htab (hpc (.inr ⟨by decide, xEx 1, hts _ qcx_L_21, hX 3 0 (by decide) (by decide) (by decide)⟩) (hpc (.inr ⟨by decide, xEx 3, hts _ qcx_L_13, hX 3 2 (by decide) (by decide) (by decide)⟩) hp0)) (by decide) (by decide) (hts _ qcx_L_15) (hN.use qca_4) hc1 hc2 hc3 ?_
    refine lv_astore (lv' := [(7, .ref q9), (0, .ref (h0 0)), (1, .int a1), (2, .int a2), (3, .int a3), (4, .int a4), (5, .int a5), (6, .ref o)]) hx hb dL_prompt_27 hl (by decide) rfl (fun ls hl => ?_)
    refine lv_iconst (v := iI (lawC [1, 3, 4] 4 : Int)) hx hb dL_prompt_29 (by decide +kernel) ?_
    exact hIret hx hb hr9 hlocks hP hK hD hS dL_prompt_30
  · subst hk
    refine lv_i2l (v := v.toInt64) hx hb dL_prompt_14 rfl ?_
    refine xLast (w2 := fun zz => HW cA ad hr h0 o od zz g t9 r9) hx hb hK hP hD hS 0 2 rfl rfl (x_lit (n := 1) (k := 0) (by decide)) (fun _ => rfl) dL_prompt_15 (fun g9 eg9 H locs hP hD hS => ?_)
    subst eg9
    refine lv_goto (tgt := 31) hx hb dL_prompt_16 (by decide) ?_
    refine lv_iconst (v := iI (lawC [1, 3, 4] 0 : Int)) hx hb dL_prompt_31 (by decide +kernel) ?_
    exact hIret hx hb hr9 hlocks hP hK hD hS dL_prompt_32
set_option maxRecDepth 100000 in
set_option maxHeartbeats 4000000 in
theorem h_cancelPrompt (l : Launch) (hl9 : l.stackTraces = false) (D : va_G) (cA : Nat → ClassId) (ad : Nat → Nat) (hr : Nat → Nat → Nat) (h0 : Nat → Nat) (o od sz N : Nat) (a1 : Int32) (f : Nat → Int64) (g : Nat → UInt64) (s0 : ThlS) (s1 : Nat → BooS) (k : Nat) (v : Int32) (t9 : ThlS) (r9 : Nat → BooS) (h : fX12_cancelPrompt N a1 s0 s1 = some (k, v, t9, r9)) (hq : k = 0 ∨ k ∈ ([1] : List Nat)) : hM l yL_cancelPrompt cL_cancelPrompt 4 hh_cancelPrompt ({ frames := 8, cells := 1, slots := 6, locals := 144 }) D cA ad (HW cA ad hr h0 o od f g s0 s1) sz [.ref (h0 0), .int a1, .ref o] (some (.int (iI (lawC [1] k : Int)))) (HW cA ad hr h0 o od (fU k f v.toInt64) g t9 r9) 1 6 := by
  generalize erm : ({ frames := 8, cells := 1, slots := 6, locals := 144 } : Room) = rm
  refine hMet (by decide) (Nat.le_of_ble_eq_true rfl) ?_
  intro p e s m below meth c hx hb hr9 hlocks hml hts hown hK hP A eA hD hS hA hsz hN hE hV hX htab ls hl
  have hl : lv_has ls 4 [(0, .ref (h0 0)), (1, .int a1), (2, .ref o)] := hl
  clear eA
  refine lv_aload_n hx hb dL_cancelPrompt_0 rfl (lv_at hl 2 rfl) ?_
  refine lv_iconst (v := 0) hx hb dL_cancelPrompt_1 (by decide) ?_
  refine lv_aload_n hx hb dL_cancelPrompt_2 rfl (lv_at hl 0 rfl) ?_
  refine lv_iload_n hx hb dL_cancelPrompt_3 rfl (lv_at hl 1 rfl) ?_
  refine vCall (w2 := HW cA ad hr h0 o od f g t9 r9) (vRunV (n := 1) (As := [.int a1]) (rest := [.int 0, .ref o]) ⟨hx, hb, hml, hown, hts⟩ (kX12_cancelPrompt l hl9 D cA ad hr h0 _ N a1 s0 s1 (k, v, t9, r9) h) qco_X12_cancelPrompt qml_L_36 qin_X12_cancelPrompt qse_X12_cancelPrompt qini_X12 (by decide +kernel) (by rw [← erm]; rfl) hN hE hV hS hA hK hP hD (mid 2 286) (mid_C0 (A := HA cA o od f g) (B := ThlW cA ad hr h0 s0 ++ RowW cA hr s1) rfl (TR_len cA ad hr h0 s0 s1)) (mid_nd _ _) (q0 := 0) rfl rfl rfl rfl rfl hl.1 rfl (lv_room (Nat.le_of_ble_eq_true rfl)) dL_cancelPrompt_4 ⟨(by rw [← erm]; exact Nat.le_of_ble_eq_true rfl), (by rw [← erm]; exact Nat.le_of_ble_eq_true rfl)⟩) hP hD hS hA (mid 2 286) (mid_C0 (A := HA cA o od f g) (B := ThlW cA ad hr h0 s0 ++ RowW cA hr s1) rfl (TR_len cA ad hr h0 s0 s1)) (TR_fst cA ad hr h0 t9 s0 r9 s1) (mid_H0 (A := HA cA o od f g) (B := ThlW cA ad hr h0 s0 ++ RowW cA hr s1) (B' := ThlW cA ad hr h0 t9 ++ RowW cA hr r9) rfl (TR_len cA ad hr h0 s0 s1) (TR_len cA ad hr h0 t9 r9)) (fun hne q9 ce H locs hP hD hS hc1 hc2 hc3 => ?_) (fun hk H locs hP hD hS => ?_)
  · rcases hq with hq | hq
    · exact absurd hq hne
    have hq := List.mem_singleton.mp hq
    subst hq
    refine vx_catch hown [] ⟨0, 9, 12, 21⟩ [] htab hp0 (by decide) (by decide) (hts _ qcx_L_21) (hN.use qca_1) hc1 hc2 hc3 ?_
    refine lv_astore_n (lv' := [(3, .ref q9), (0, .ref (h0 0)), (1, .int a1), (2, .ref o)]) hx hb dL_cancelPrompt_12 rfl hl (by decide) rfl (fun ls hl => ?_)
    refine lv_iconst (v := iI (lawC [1] 1 : Int)) hx hb dL_cancelPrompt_13 (by decide +kernel) ?_
    exact hIret hx hb hr9 hlocks hP hK hD hS dL_cancelPrompt_14
  · subst hk
    refine lv_i2l (v := v.toInt64) hx hb dL_cancelPrompt_7 rfl ?_
    refine xLast (w2 := fun zz => HW cA ad hr h0 o od zz g t9 r9) hx hb hK hP hD hS 0 2 rfl rfl (x_lit (n := 1) (k := 0) (by decide)) (fun _ => rfl) dL_cancelPrompt_8 (fun g9 eg9 H locs hP hD hS => ?_)
    subst eg9
    refine lv_goto (tgt := 15) hx hb dL_cancelPrompt_9 (by decide) ?_
    refine lv_iconst (v := iI (lawC [1] 0 : Int)) hx hb dL_cancelPrompt_15 (by decide +kernel) ?_
    exact hIret hx hb hr9 hlocks hP hK hD hS dL_cancelPrompt_16
set_option maxRecDepth 100000 in
set_option maxHeartbeats 4000000 in
theorem h_passHours (l : Launch) (hl9 : l.stackTraces = false) (D : va_G) (cA : Nat → ClassId) (ad : Nat → Nat) (hr : Nat → Nat → Nat) (h0 : Nat → Nat) (o od sz N : Nat) (a1 : Int32) (f : Nat → Int64) (g : Nat → UInt64) (s0 : ThlS) (s1 : Nat → BooS) (k : Nat) (v : Int32) (t9 : ThlS) (r9 : Nat → BooS) (h : fX12_passHours N a1 s0 s1 = some (k, v, t9, r9)) (hq : k = 0 ∨ k ∈ ([3] : List Nat)) : hM l yL_passHours cL_passHours 4 hh_passHours ({ frames := 8, cells := 1, slots := 6, locals := 144 }) D cA ad (HW cA ad hr h0 o od f g s0 s1) sz [.ref (h0 0), .int a1, .ref o] (some (.int (iI (lawC [3] k : Int)))) (HW cA ad hr h0 o od (fU k f v.toInt64) g t9 r9) 1 6 := by
  generalize erm : ({ frames := 8, cells := 1, slots := 6, locals := 144 } : Room) = rm
  refine hMet (by decide) (Nat.le_of_ble_eq_true rfl) ?_
  intro p e s m below meth c hx hb hr9 hlocks hml hts hown hK hP A eA hD hS hA hsz hN hE hV hX htab ls hl
  have hl : lv_has ls 4 [(0, .ref (h0 0)), (1, .int a1), (2, .ref o)] := hl
  clear eA
  refine lv_aload_n hx hb dL_passHours_0 rfl (lv_at hl 2 rfl) ?_
  refine lv_iconst (v := 0) hx hb dL_passHours_1 (by decide) ?_
  refine lv_aload_n hx hb dL_passHours_2 rfl (lv_at hl 0 rfl) ?_
  refine lv_iload_n hx hb dL_passHours_3 rfl (lv_at hl 1 rfl) ?_
  refine vCall (w2 := HW cA ad hr h0 o od f g t9 r9) (vRunV (n := 1) (As := [.int a1]) (rest := [.int 0, .ref o]) ⟨hx, hb, hml, hown, hts⟩ (kX12_passHours l hl9 D cA ad hr h0 _ N a1 s0 s1 (k, v, t9, r9) h) qco_X12_passHours qml_L_39 qin_X12_passHours qse_X12_passHours qini_X12 (by decide +kernel) (by rw [← erm]; rfl) hN hE hV hS hA hK hP hD (mid 2 286) (mid_C0 (A := HA cA o od f g) (B := ThlW cA ad hr h0 s0 ++ RowW cA hr s1) rfl (TR_len cA ad hr h0 s0 s1)) (mid_nd _ _) (q0 := 0) rfl rfl rfl rfl rfl hl.1 rfl (lv_room (Nat.le_of_ble_eq_true rfl)) dL_passHours_4 ⟨(by rw [← erm]; exact Nat.le_of_ble_eq_true rfl), (by rw [← erm]; exact Nat.le_of_ble_eq_true rfl)⟩) hP hD hS hA (mid 2 286) (mid_C0 (A := HA cA o od f g) (B := ThlW cA ad hr h0 s0 ++ RowW cA hr s1) rfl (TR_len cA ad hr h0 s0 s1)) (TR_fst cA ad hr h0 t9 s0 r9 s1) (mid_H0 (A := HA cA o od f g) (B := ThlW cA ad hr h0 s0 ++ RowW cA hr s1) (B' := ThlW cA ad hr h0 t9 ++ RowW cA hr r9) rfl (TR_len cA ad hr h0 s0 s1) (TR_len cA ad hr h0 t9 r9)) (fun hne q9 ce H locs hP hD hS hc1 hc2 hc3 => ?_) (fun hk H locs hP hD hS => ?_)
  · rcases hq with hq | hq
    · exact absurd hq hne
    have hq := List.mem_singleton.mp hq
    subst hq
    refine vx_catch hown [] ⟨0, 9, 12, 13⟩ [] htab hp0 (by decide) (by decide) (hts _ qcx_L_13) (hN.use qca_3) hc1 hc2 hc3 ?_
    refine lv_astore_n (lv' := [(3, .ref q9), (0, .ref (h0 0)), (1, .int a1), (2, .ref o)]) hx hb dL_passHours_12 rfl hl (by decide) rfl (fun ls hl => ?_)
    refine lv_iconst (v := iI (lawC [3] 3 : Int)) hx hb dL_passHours_13 (by decide +kernel) ?_
    exact hIret hx hb hr9 hlocks hP hK hD hS dL_passHours_14
  · subst hk
    refine lv_i2l (v := v.toInt64) hx hb dL_passHours_7 rfl ?_
    refine xLast (w2 := fun zz => HW cA ad hr h0 o od zz g t9 r9) hx hb hK hP hD hS 0 2 rfl rfl (x_lit (n := 1) (k := 0) (by decide)) (fun _ => rfl) dL_passHours_8 (fun g9 eg9 H locs hP hD hS => ?_)
    subst eg9
    refine lv_goto (tgt := 15) hx hb dL_passHours_9 (by decide) ?_
    refine lv_iconst (v := iI (lawC [3] 0 : Int)) hx hb dL_passHours_15 (by decide +kernel) ?_
    exact hIret hx hb hr9 hlocks hP hK hD hS dL_passHours_16
set_option maxRecDepth 100000 in
set_option maxHeartbeats 4000000 in
theorem h_buy (l : Launch) (hl9 : l.stackTraces = false) (D : va_G) (cA : Nat → ClassId) (ad : Nat → Nat) (hr : Nat → Nat → Nat) (h0 : Nat → Nat) (o od sz N : Nat) (a1 : Int32) (a2 : Int32) (f : Nat → Int64) (g : Nat → UInt64) (s0 : ThlS) (s1 : Nat → BooS) (k : Nat) (v : Int32) (t9 : ThlS) (r9 : Nat → BooS) (h : fX12_buy N a1 a2 s0 s1 = some (k, v, t9, r9)) (hq : k = 0 ∨ k ∈ ([3, 4, 5] : List Nat)) : hM l yL_buy cL_buy 5 hh_buy ({ frames := 8, cells := 1, slots := 6, locals := 145 }) D cA ad (HW cA ad hr h0 o od f g s0 s1) sz [.ref (h0 0), .int a1, .int a2, .ref o] (some (.int (iI (lawC [3, 4, 5] k : Int)))) (HW cA ad hr h0 o od (fU k f v.toInt64) g t9 r9) 1 6 := by
  generalize erm : ({ frames := 8, cells := 1, slots := 6, locals := 145 } : Room) = rm
  refine hMet (by decide) (Nat.le_of_ble_eq_true rfl) ?_
  intro p e s m below meth c hx hb hr9 hlocks hml hts hown hK hP A eA hD hS hA hsz hN hE hV hX htab ls hl
  have hl : lv_has ls 5 [(0, .ref (h0 0)), (1, .int a1), (2, .int a2), (3, .ref o)] := hl
  clear eA
  refine lv_aload_n hx hb dL_buy_0 rfl (lv_at hl 3 rfl) ?_
  refine lv_iconst (v := 0) hx hb dL_buy_1 (by decide) ?_
  refine lv_aload_n hx hb dL_buy_2 rfl (lv_at hl 0 rfl) ?_
  refine lv_iload_n hx hb dL_buy_3 rfl (lv_at hl 1 rfl) ?_
  refine lv_iload_n hx hb dL_buy_4 rfl (lv_at hl 2 rfl) ?_
  refine vCall (w2 := HW cA ad hr h0 o od f g t9 r9) (vRunV (n := 2) (As := [.int a1, .int a2]) (rest := [.int 0, .ref o]) ⟨hx, hb, hml, hown, hts⟩ (kX12_buy l hl9 D cA ad hr h0 _ N a1 a2 s0 s1 (k, v, t9, r9) h) qco_X12_buy qml_L_42 qin_X12_buy qse_X12_buy qini_X12 (by decide +kernel) (by rw [← erm]; rfl) hN hE hV hS hA hK hP hD (mid 2 286) (mid_C0 (A := HA cA o od f g) (B := ThlW cA ad hr h0 s0 ++ RowW cA hr s1) rfl (TR_len cA ad hr h0 s0 s1)) (mid_nd _ _) (q0 := 0) rfl rfl rfl rfl rfl hl.1 rfl (lv_room (Nat.le_of_ble_eq_true rfl)) dL_buy_5 ⟨(by rw [← erm]; exact Nat.le_of_ble_eq_true rfl), (by rw [← erm]; exact Nat.le_of_ble_eq_true rfl)⟩) hP hD hS hA (mid 2 286) (mid_C0 (A := HA cA o od f g) (B := ThlW cA ad hr h0 s0 ++ RowW cA hr s1) rfl (TR_len cA ad hr h0 s0 s1)) (TR_fst cA ad hr h0 t9 s0 r9 s1) (mid_H0 (A := HA cA o od f g) (B := ThlW cA ad hr h0 s0 ++ RowW cA hr s1) (B' := ThlW cA ad hr h0 t9 ++ RowW cA hr r9) rfl (TR_len cA ad hr h0 s0 s1) (TR_len cA ad hr h0 t9 r9)) (fun hne q9 ce H locs hP hD hS hc1 hc2 hc3 => ?_) (fun hk H locs hP hD hS => ?_)
  · rcases hq with hq | hq
    · exact absurd hq hne
    rcases List.mem_cons.mp hq with hq | hq
    · subst hq
      refine vx_catch hown [] ⟨0, 10, 13, 13⟩ [⟨0, 10, 17, 15⟩, ⟨0, 10, 21, 46⟩] htab hp0 (by decide) (by decide) (hts _ qcx_L_13) (hN.use qca_3) hc1 hc2 hc3 ?_
      refine lv_astore (lv' := [(4, .ref q9), (0, .ref (h0 0)), (1, .int a1), (2, .int a2), (3, .ref o)]) hx hb dL_buy_13 hl (by decide) rfl (fun ls hl => ?_)
      refine lv_iconst (v := iI (lawC [3, 4, 5] 3 : Int)) hx hb dL_buy_15 (by decide +kernel) ?_
      exact hIret hx hb hr9 hlocks hP hK hD hS dL_buy_16
    rcases List.mem_cons.mp hq with hq | hq
    · subst hq
      refine vx_catch hown [⟨0, 10, 13, 13⟩] ⟨0, 10, 17, 15⟩ [⟨0, 10, 21, 46⟩] htab (hpc (.inr ⟨by decide, xEx 3, hts _ qcx_L_13, hX 3 2 (by decide) (by decide) (by decide)⟩) hp0) (by decide) (by decide) (hts _ qcx_L_15) (hN.use qca_4) hc1 hc2 hc3 ?_
      refine lv_astore (lv' := [(4, .ref q9), (0, .ref (h0 0)), (1, .int a1), (2, .int a2), (3, .ref o)]) hx hb dL_buy_17 hl (by decide) rfl (fun ls hl => ?_)
      refine lv_iconst (v := iI (lawC [3, 4, 5] 4 : Int)) hx hb dL_buy_19 (by decide +kernel) ?_
      exact hIret hx hb hr9 hlocks hP hK hD hS dL_buy_20
    have hq := List.mem_singleton.mp hq
    subst hq
    refine vx_catch hown [⟨0, 10, 13, 13⟩, ⟨0, 10, 17, 15⟩] ⟨0, 10, 21, 46⟩ [] htab (hpc (.inr ⟨by decide, xEx 3, hts _ qcx_L_13, hX 4 2 (by decide) (by decide) (by decide)⟩) (hpc (.inr ⟨by decide, xEx 4, hts _ qcx_L_15, hX 4 3 (by decide) (by decide) (by decide)⟩) hp0)) (by decide) (by decide) (hts _ qcx_L_46) (hN.use qca_5) hc1 hc2 hc3 ?_
    refine lv_astore (lv' := [(4, .ref q9), (0, .ref (h0 0)), (1, .int a1), (2, .int a2), (3, .ref o)]) hx hb dL_buy_21 hl (by decide) rfl (fun ls hl => ?_)
    refine lv_iconst (v := iI (lawC [3, 4, 5] 5 : Int)) hx hb dL_buy_23 (by decide +kernel) ?_
    exact hIret hx hb hr9 hlocks hP hK hD hS dL_buy_24
  · subst hk
    refine lv_i2l (v := v.toInt64) hx hb dL_buy_8 rfl ?_
    refine xLast (w2 := fun zz => HW cA ad hr h0 o od zz g t9 r9) hx hb hK hP hD hS 0 2 rfl rfl (x_lit (n := 1) (k := 0) (by decide)) (fun _ => rfl) dL_buy_9 (fun g9 eg9 H locs hP hD hS => ?_)
    subst eg9
    refine lv_goto (tgt := 25) hx hb dL_buy_10 (by decide) ?_
    refine lv_iconst (v := iI (lawC [3, 4, 5] 0 : Int)) hx hb dL_buy_25 (by decide +kernel) ?_
    exact hIret hx hb hr9 hlocks hP hK hD hS dL_buy_26
set_option maxRecDepth 100000 in
set_option maxHeartbeats 4000000 in
theorem h_sell (l : Launch) (hl9 : l.stackTraces = false) (D : va_G) (cA : Nat → ClassId) (ad : Nat → Nat) (hr : Nat → Nat → Nat) (h0 : Nat → Nat) (o od sz N : Nat) (a1 : Int32) (a2 : Int32) (f : Nat → Int64) (g : Nat → UInt64) (s0 : ThlS) (s1 : Nat → BooS) (k : Nat) (v : Int32) (t9 : ThlS) (r9 : Nat → BooS) (h : fX12_sell N a1 a2 s0 s1 = some (k, v, t9, r9)) (hq : k = 0 ∨ k ∈ ([3, 4] : List Nat)) : hM l yL_sell cL_sell 5 hh_sell ({ frames := 8, cells := 1, slots := 6, locals := 145 }) D cA ad (HW cA ad hr h0 o od f g s0 s1) sz [.ref (h0 0), .int a1, .int a2, .ref o] (some (.int (iI (lawC [3, 4] k : Int)))) (HW cA ad hr h0 o od (fU k f v.toInt64) g t9 r9) 1 6 := by
  generalize erm : ({ frames := 8, cells := 1, slots := 6, locals := 145 } : Room) = rm
  refine hMet (by decide) (Nat.le_of_ble_eq_true rfl) ?_
  intro p e s m below meth c hx hb hr9 hlocks hml hts hown hK hP A eA hD hS hA hsz hN hE hV hX htab ls hl
  have hl : lv_has ls 5 [(0, .ref (h0 0)), (1, .int a1), (2, .int a2), (3, .ref o)] := hl
  clear eA
  refine lv_aload_n hx hb dL_sell_0 rfl (lv_at hl 3 rfl) ?_
  refine lv_iconst (v := 0) hx hb dL_sell_1 (by decide) ?_
  refine lv_aload_n hx hb dL_sell_2 rfl (lv_at hl 0 rfl) ?_
  refine lv_iload_n hx hb dL_sell_3 rfl (lv_at hl 1 rfl) ?_
  refine lv_iload_n hx hb dL_sell_4 rfl (lv_at hl 2 rfl) ?_
  refine vCall (w2 := HW cA ad hr h0 o od f g t9 r9) (vRunV (n := 2) (As := [.int a1, .int a2]) (rest := [.int 0, .ref o]) ⟨hx, hb, hml, hown, hts⟩ (kX12_sell l hl9 D cA ad hr h0 _ N a1 a2 s0 s1 (k, v, t9, r9) h) qco_X12_sell qml_L_48 qin_X12_sell qse_X12_sell qini_X12 (by decide +kernel) (by rw [← erm]; rfl) hN hE hV hS hA hK hP hD (mid 2 286) (mid_C0 (A := HA cA o od f g) (B := ThlW cA ad hr h0 s0 ++ RowW cA hr s1) rfl (TR_len cA ad hr h0 s0 s1)) (mid_nd _ _) (q0 := 0) rfl rfl rfl rfl rfl hl.1 rfl (lv_room (Nat.le_of_ble_eq_true rfl)) dL_sell_5 ⟨(by rw [← erm]; exact Nat.le_of_ble_eq_true rfl), (by rw [← erm]; exact Nat.le_of_ble_eq_true rfl)⟩) hP hD hS hA (mid 2 286) (mid_C0 (A := HA cA o od f g) (B := ThlW cA ad hr h0 s0 ++ RowW cA hr s1) rfl (TR_len cA ad hr h0 s0 s1)) (TR_fst cA ad hr h0 t9 s0 r9 s1) (mid_H0 (A := HA cA o od f g) (B := ThlW cA ad hr h0 s0 ++ RowW cA hr s1) (B' := ThlW cA ad hr h0 t9 ++ RowW cA hr r9) rfl (TR_len cA ad hr h0 s0 s1) (TR_len cA ad hr h0 t9 r9)) (fun hne q9 ce H locs hP hD hS hc1 hc2 hc3 => ?_) (fun hk H locs hP hD hS => ?_)
  · rcases hq with hq | hq
    · exact absurd hq hne
    rcases List.mem_cons.mp hq with hq | hq
    · subst hq
      refine vx_catch hown [] ⟨0, 10, 13, 13⟩ [⟨0, 10, 17, 15⟩] htab hp0 (by decide) (by decide) (hts _ qcx_L_13) (hN.use qca_3) hc1 hc2 hc3 ?_
      refine lv_astore (lv' := [(4, .ref q9), (0, .ref (h0 0)), (1, .int a1), (2, .int a2), (3, .ref o)]) hx hb dL_sell_13 hl (by decide) rfl (fun ls hl => ?_)
      refine lv_iconst (v := iI (lawC [3, 4] 3 : Int)) hx hb dL_sell_15 (by decide +kernel) ?_
      exact hIret hx hb hr9 hlocks hP hK hD hS dL_sell_16
    have hq := List.mem_singleton.mp hq
    subst hq
    refine vx_catch hown [⟨0, 10, 13, 13⟩] ⟨0, 10, 17, 15⟩ [] htab (hpc (.inr ⟨by decide, xEx 3, hts _ qcx_L_13, hX 3 2 (by decide) (by decide) (by decide)⟩) hp0) (by decide) (by decide) (hts _ qcx_L_15) (hN.use qca_4) hc1 hc2 hc3 ?_
    refine lv_astore (lv' := [(4, .ref q9), (0, .ref (h0 0)), (1, .int a1), (2, .int a2), (3, .ref o)]) hx hb dL_sell_17 hl (by decide) rfl (fun ls hl => ?_)
    refine lv_iconst (v := iI (lawC [3, 4] 4 : Int)) hx hb dL_sell_19 (by decide +kernel) ?_
    exact hIret hx hb hr9 hlocks hP hK hD hS dL_sell_20
  · subst hk
    refine lv_i2l (v := v.toInt64) hx hb dL_sell_8 rfl ?_
    refine xLast (w2 := fun zz => HW cA ad hr h0 o od zz g t9 r9) hx hb hK hP hD hS 0 2 rfl rfl (x_lit (n := 1) (k := 0) (by decide)) (fun _ => rfl) dL_sell_9 (fun g9 eg9 H locs hP hD hS => ?_)
    subst eg9
    refine lv_goto (tgt := 21) hx hb dL_sell_10 (by decide) ?_
    refine lv_iconst (v := iI (lawC [3, 4] 0 : Int)) hx hb dL_sell_21 (by decide +kernel) ?_
    exact hIret hx hb hr9 hlocks hP hK hD hS dL_sell_22
set_option maxRecDepth 100000 in
set_option maxHeartbeats 4000000 in
theorem h_bill (l : Launch) (hl9 : l.stackTraces = false) (D : va_G) (cA : Nat → ClassId) (ad : Nat → Nat) (hr : Nat → Nat → Nat) (h0 : Nat → Nat) (o od sz N : Nat) (a1 : Int32) (f : Nat → Int64) (g : Nat → UInt64) (s0 : ThlS) (s1 : Nat → BooS) (k : Nat) (v : Int32) (t9 : ThlS) (r9 : Nat → BooS) (h : fX12_bill N a1 s0 s1 = some (k, v, t9, r9)) (hq : k = 0 ∨ k ∈ ([3, 4] : List Nat)) : hM l yL_bill cL_bill 4 hh_bill ({ frames := 8, cells := 1, slots := 6, locals := 144 }) D cA ad (HW cA ad hr h0 o od f g s0 s1) sz [.ref (h0 0), .int a1, .ref o] (some (.int (iI (lawC [3, 4] k : Int)))) (HW cA ad hr h0 o od (fU k f v.toInt64) g t9 r9) 1 6 := by
  generalize erm : ({ frames := 8, cells := 1, slots := 6, locals := 144 } : Room) = rm
  refine hMet (by decide) (Nat.le_of_ble_eq_true rfl) ?_
  intro p e s m below meth c hx hb hr9 hlocks hml hts hown hK hP A eA hD hS hA hsz hN hE hV hX htab ls hl
  have hl : lv_has ls 4 [(0, .ref (h0 0)), (1, .int a1), (2, .ref o)] := hl
  clear eA
  refine lv_aload_n hx hb dL_bill_0 rfl (lv_at hl 2 rfl) ?_
  refine lv_iconst (v := 0) hx hb dL_bill_1 (by decide) ?_
  refine lv_aload_n hx hb dL_bill_2 rfl (lv_at hl 0 rfl) ?_
  refine lv_iload_n hx hb dL_bill_3 rfl (lv_at hl 1 rfl) ?_
  refine vCall (w2 := HW cA ad hr h0 o od f g t9 r9) (vRunV (n := 1) (As := [.int a1]) (rest := [.int 0, .ref o]) ⟨hx, hb, hml, hown, hts⟩ (kX12_bill l hl9 D cA ad hr h0 _ N a1 s0 s1 (k, v, t9, r9) h) qco_X12_bill qml_L_51 qin_X12_bill qse_X12_bill qini_X12 (by decide +kernel) (by rw [← erm]; rfl) hN hE hV hS hA hK hP hD (mid 2 286) (mid_C0 (A := HA cA o od f g) (B := ThlW cA ad hr h0 s0 ++ RowW cA hr s1) rfl (TR_len cA ad hr h0 s0 s1)) (mid_nd _ _) (q0 := 0) rfl rfl rfl rfl rfl hl.1 rfl (lv_room (Nat.le_of_ble_eq_true rfl)) dL_bill_4 ⟨(by rw [← erm]; exact Nat.le_of_ble_eq_true rfl), (by rw [← erm]; exact Nat.le_of_ble_eq_true rfl)⟩) hP hD hS hA (mid 2 286) (mid_C0 (A := HA cA o od f g) (B := ThlW cA ad hr h0 s0 ++ RowW cA hr s1) rfl (TR_len cA ad hr h0 s0 s1)) (TR_fst cA ad hr h0 t9 s0 r9 s1) (mid_H0 (A := HA cA o od f g) (B := ThlW cA ad hr h0 s0 ++ RowW cA hr s1) (B' := ThlW cA ad hr h0 t9 ++ RowW cA hr r9) rfl (TR_len cA ad hr h0 s0 s1) (TR_len cA ad hr h0 t9 r9)) (fun hne q9 ce H locs hP hD hS hc1 hc2 hc3 => ?_) (fun hk H locs hP hD hS => ?_)
  · rcases hq with hq | hq
    · exact absurd hq hne
    rcases List.mem_cons.mp hq with hq | hq
    · subst hq
      refine vx_catch hown [] ⟨0, 9, 12, 13⟩ [⟨0, 9, 15, 15⟩] htab hp0 (by decide) (by decide) (hts _ qcx_L_13) (hN.use qca_3) hc1 hc2 hc3 ?_
      refine lv_astore_n (lv' := [(3, .ref q9), (0, .ref (h0 0)), (1, .int a1), (2, .ref o)]) hx hb dL_bill_12 rfl hl (by decide) rfl (fun ls hl => ?_)
      refine lv_iconst (v := iI (lawC [3, 4] 3 : Int)) hx hb dL_bill_13 (by decide +kernel) ?_
      exact hIret hx hb hr9 hlocks hP hK hD hS dL_bill_14
    have hq := List.mem_singleton.mp hq
    subst hq
    refine vx_catch hown [⟨0, 9, 12, 13⟩] ⟨0, 9, 15, 15⟩ [] htab (hpc (.inr ⟨by decide, xEx 3, hts _ qcx_L_13, hX 3 2 (by decide) (by decide) (by decide)⟩) hp0) (by decide) (by decide) (hts _ qcx_L_15) (hN.use qca_4) hc1 hc2 hc3 ?_
    refine lv_astore_n (lv' := [(3, .ref q9), (0, .ref (h0 0)), (1, .int a1), (2, .ref o)]) hx hb dL_bill_15 rfl hl (by decide) rfl (fun ls hl => ?_)
    refine lv_iconst (v := iI (lawC [3, 4] 4 : Int)) hx hb dL_bill_16 (by decide +kernel) ?_
    exact hIret hx hb hr9 hlocks hP hK hD hS dL_bill_17
  · subst hk
    refine lv_i2l (v := v.toInt64) hx hb dL_bill_7 rfl ?_
    refine xLast (w2 := fun zz => HW cA ad hr h0 o od zz g t9 r9) hx hb hK hP hD hS 0 2 rfl rfl (x_lit (n := 1) (k := 0) (by decide)) (fun _ => rfl) dL_bill_8 (fun g9 eg9 H locs hP hD hS => ?_)
    subst eg9
    refine lv_goto (tgt := 18) hx hb dL_bill_9 (by decide) ?_
    refine lv_iconst (v := iI (lawC [3, 4] 0 : Int)) hx hb dL_bill_18 (by decide +kernel) ?_
    exact hIret hx hb hr9 hlocks hP hK hD hS dL_bill_19
set_option maxRecDepth 100000 in
set_option maxHeartbeats 4000000 in
theorem h_pay (l : Launch) (hl9 : l.stackTraces = false) (D : va_G) (cA : Nat → ClassId) (ad : Nat → Nat) (hr : Nat → Nat → Nat) (h0 : Nat → Nat) (o od sz N : Nat) (a1 : Int32) (f : Nat → Int64) (g : Nat → UInt64) (s0 : ThlS) (s1 : Nat → BooS) (k : Nat) (v : Int32) (t9 : ThlS) (r9 : Nat → BooS) (h : fX12_pay N a1 s0 s1 = some (k, v, t9, r9)) (hq : k = 0 ∨ k ∈ ([3, 4] : List Nat)) : hM l yL_pay cL_pay 4 hh_pay ({ frames := 8, cells := 1, slots := 6, locals := 144 }) D cA ad (HW cA ad hr h0 o od f g s0 s1) sz [.ref (h0 0), .int a1, .ref o] (some (.int (iI (lawC [3, 4] k : Int)))) (HW cA ad hr h0 o od (fU k f v.toInt64) g t9 r9) 1 6 := by
  generalize erm : ({ frames := 8, cells := 1, slots := 6, locals := 144 } : Room) = rm
  refine hMet (by decide) (Nat.le_of_ble_eq_true rfl) ?_
  intro p e s m below meth c hx hb hr9 hlocks hml hts hown hK hP A eA hD hS hA hsz hN hE hV hX htab ls hl
  have hl : lv_has ls 4 [(0, .ref (h0 0)), (1, .int a1), (2, .ref o)] := hl
  clear eA
  refine lv_aload_n hx hb dL_pay_0 rfl (lv_at hl 2 rfl) ?_
  refine lv_iconst (v := 0) hx hb dL_pay_1 (by decide) ?_
  refine lv_aload_n hx hb dL_pay_2 rfl (lv_at hl 0 rfl) ?_
  refine lv_iload_n hx hb dL_pay_3 rfl (lv_at hl 1 rfl) ?_
  refine vCall (w2 := HW cA ad hr h0 o od f g t9 r9) (vRunV (n := 1) (As := [.int a1]) (rest := [.int 0, .ref o]) ⟨hx, hb, hml, hown, hts⟩ (kX12_pay l hl9 D cA ad hr h0 _ N a1 s0 s1 (k, v, t9, r9) h) qco_X12_pay qml_L_54 qin_X12_pay qse_X12_pay qini_X12 (by decide +kernel) (by rw [← erm]; rfl) hN hE hV hS hA hK hP hD (mid 2 286) (mid_C0 (A := HA cA o od f g) (B := ThlW cA ad hr h0 s0 ++ RowW cA hr s1) rfl (TR_len cA ad hr h0 s0 s1)) (mid_nd _ _) (q0 := 0) rfl rfl rfl rfl rfl hl.1 rfl (lv_room (Nat.le_of_ble_eq_true rfl)) dL_pay_4 ⟨(by rw [← erm]; exact Nat.le_of_ble_eq_true rfl), (by rw [← erm]; exact Nat.le_of_ble_eq_true rfl)⟩) hP hD hS hA (mid 2 286) (mid_C0 (A := HA cA o od f g) (B := ThlW cA ad hr h0 s0 ++ RowW cA hr s1) rfl (TR_len cA ad hr h0 s0 s1)) (TR_fst cA ad hr h0 t9 s0 r9 s1) (mid_H0 (A := HA cA o od f g) (B := ThlW cA ad hr h0 s0 ++ RowW cA hr s1) (B' := ThlW cA ad hr h0 t9 ++ RowW cA hr r9) rfl (TR_len cA ad hr h0 s0 s1) (TR_len cA ad hr h0 t9 r9)) (fun hne q9 ce H locs hP hD hS hc1 hc2 hc3 => ?_) (fun hk H locs hP hD hS => ?_)
  · rcases hq with hq | hq
    · exact absurd hq hne
    rcases List.mem_cons.mp hq with hq | hq
    · subst hq
      refine vx_catch hown [] ⟨0, 9, 12, 13⟩ [⟨0, 9, 15, 15⟩] htab hp0 (by decide) (by decide) (hts _ qcx_L_13) (hN.use qca_3) hc1 hc2 hc3 ?_
      refine lv_astore_n (lv' := [(3, .ref q9), (0, .ref (h0 0)), (1, .int a1), (2, .ref o)]) hx hb dL_pay_12 rfl hl (by decide) rfl (fun ls hl => ?_)
      refine lv_iconst (v := iI (lawC [3, 4] 3 : Int)) hx hb dL_pay_13 (by decide +kernel) ?_
      exact hIret hx hb hr9 hlocks hP hK hD hS dL_pay_14
    have hq := List.mem_singleton.mp hq
    subst hq
    refine vx_catch hown [⟨0, 9, 12, 13⟩] ⟨0, 9, 15, 15⟩ [] htab (hpc (.inr ⟨by decide, xEx 3, hts _ qcx_L_13, hX 3 2 (by decide) (by decide) (by decide)⟩) hp0) (by decide) (by decide) (hts _ qcx_L_15) (hN.use qca_4) hc1 hc2 hc3 ?_
    refine lv_astore_n (lv' := [(3, .ref q9), (0, .ref (h0 0)), (1, .int a1), (2, .ref o)]) hx hb dL_pay_15 rfl hl (by decide) rfl (fun ls hl => ?_)
    refine lv_iconst (v := iI (lawC [3, 4] 4 : Int)) hx hb dL_pay_16 (by decide +kernel) ?_
    exact hIret hx hb hr9 hlocks hP hK hD hS dL_pay_17
  · subst hk
    refine lv_i2l (v := v.toInt64) hx hb dL_pay_7 rfl ?_
    refine xLast (w2 := fun zz => HW cA ad hr h0 o od zz g t9 r9) hx hb hK hP hD hS 0 2 rfl rfl (x_lit (n := 1) (k := 0) (by decide)) (fun _ => rfl) dL_pay_8 (fun g9 eg9 H locs hP hD hS => ?_)
    subst eg9
    refine lv_goto (tgt := 18) hx hb dL_pay_9 (by decide) ?_
    refine lv_iconst (v := iI (lawC [3, 4] 0 : Int)) hx hb dL_pay_18 (by decide +kernel) ?_
    exact hIret hx hb hr9 hlocks hP hK hD hS dL_pay_19
set_option maxRecDepth 100000 in
set_option maxHeartbeats 4000000 in
theorem h_kind (l : Launch) (hl9 : l.stackTraces = false) (D : va_G) (cA : Nat → ClassId) (ad : Nat → Nat) (hr : Nat → Nat → Nat) (h0 : Nat → Nat) (o od sz N : Nat) (a1 : Int32) (f : Nat → Int64) (g : Nat → UInt64) (s0 : ThlS) (s1 : Nat → BooS) (k : Nat) (v : Int32) (h : fX12_kind N a1 s0 = some (k, v)) (hq : k = 0 ∨ k ∈ ([1] : List Nat)) : hM l yL_kind cL_kind 4 hh_kind ({ frames := 8, cells := 1, slots := 6, locals := 132 }) D cA ad (HW cA ad hr h0 o od f g s0 s1) sz [.ref (h0 0), .int a1, .ref o] (some (.int (iI (lawC [1] k : Int)))) (HW cA ad hr h0 o od (fU k f v.toInt64) g s0 s1) 1 6 := by
  generalize erm : ({ frames := 8, cells := 1, slots := 6, locals := 132 } : Room) = rm
  refine hMet (by decide) (Nat.le_of_ble_eq_true rfl) ?_
  intro p e s m below meth c hx hb hr9 hlocks hml hts hown hK hP A eA hD hS hA hsz hN hE hV hX htab ls hl
  have hl : lv_has ls 4 [(0, .ref (h0 0)), (1, .int a1), (2, .ref o)] := hl
  clear eA
  refine lv_aload_n hx hb dL_kind_0 rfl (lv_at hl 2 rfl) ?_
  refine lv_iconst (v := 0) hx hb dL_kind_1 (by decide) ?_
  refine lv_aload_n hx hb dL_kind_2 rfl (lv_at hl 0 rfl) ?_
  refine lv_iload_n hx hb dL_kind_3 rfl (lv_at hl 1 rfl) ?_
  refine vCall (w2 := HW cA ad hr h0 o od f g s0 s1) (vRunV (n := 1) (As := [.int a1]) (rest := [.int 0, .ref o]) ⟨hx, hb, hml, hown, hts⟩ (kX12_kind l hl9 D cA ad hr h0 _ N a1 s0 (k, v) h) qco_X12_kind qml_L_57 qin_X12_kind qse_X12_kind qini_X12 (by decide +kernel) (by rw [← erm]; rfl) hN hE hV hS hA hK hP hD (mid 2 61) (mid_C (A := HA cA o od f g) (B := ThlW cA ad hr h0 s0) (C := RowW cA hr s1) rfl rfl) (mid_nd _ _) (q0 := 0) rfl rfl rfl rfl rfl hl.1 rfl (lv_room (Nat.le_of_ble_eq_true rfl)) dL_kind_4 ⟨(by rw [← erm]; exact Nat.le_of_ble_eq_true rfl), (by rw [← erm]; exact Nat.le_of_ble_eq_true rfl)⟩) hP hD hS hA (mid 2 61) (mid_C (A := HA cA o od f g) (B := ThlW cA ad hr h0 s0) (C := RowW cA hr s1) rfl rfl) rfl (mid_H (A := HA cA o od f g) (B := ThlW cA ad hr h0 s0) (B' := ThlW cA ad hr h0 s0) (C := RowW cA hr s1) rfl rfl rfl) (fun hne q9 ce H locs hP hD hS hc1 hc2 hc3 => ?_) (fun hk H locs hP hD hS => ?_)
  · rcases hq with hq | hq
    · exact absurd hq hne
    have hq := List.mem_singleton.mp hq
    subst hq
    refine vx_catch hown [] ⟨0, 9, 12, 21⟩ [] htab hp0 (by decide) (by decide) (hts _ qcx_L_21) (hN.use qca_1) hc1 hc2 hc3 ?_
    refine lv_astore_n (lv' := [(3, .ref q9), (0, .ref (h0 0)), (1, .int a1), (2, .ref o)]) hx hb dL_kind_12 rfl hl (by decide) rfl (fun ls hl => ?_)
    refine lv_iconst (v := iI (lawC [1] 1 : Int)) hx hb dL_kind_13 (by decide +kernel) ?_
    exact hIret hx hb hr9 hlocks hP hK hD hS dL_kind_14
  · subst hk
    refine lv_i2l (v := v.toInt64) hx hb dL_kind_7 rfl ?_
    refine xLast (w2 := fun zz => HW cA ad hr h0 o od zz g s0 s1) hx hb hK hP hD hS 0 2 rfl rfl (x_lit (n := 1) (k := 0) (by decide)) (fun _ => rfl) dL_kind_8 (fun g9 eg9 H locs hP hD hS => ?_)
    subst eg9
    refine lv_goto (tgt := 15) hx hb dL_kind_9 (by decide) ?_
    refine lv_iconst (v := iI (lawC [1] 0 : Int)) hx hb dL_kind_15 (by decide +kernel) ?_
    exact hIret hx hb hr9 hlocks hP hK hD hS dL_kind_16
set_option maxRecDepth 100000 in
set_option maxHeartbeats 4000000 in
theorem h_parent (l : Launch) (hl9 : l.stackTraces = false) (D : va_G) (cA : Nat → ClassId) (ad : Nat → Nat) (hr : Nat → Nat → Nat) (h0 : Nat → Nat) (o od sz N : Nat) (a1 : Int32) (f : Nat → Int64) (g : Nat → UInt64) (s0 : ThlS) (s1 : Nat → BooS) (k : Nat) (v : Int32) (h : fX12_parent N a1 s0 = some (k, v)) (hq : k = 0 ∨ k ∈ ([1, 2] : List Nat)) : hM l yL_parent cL_parent 4 hh_parent ({ frames := 8, cells := 2, slots := 12, locals := 133 }) D cA ad (HW cA ad hr h0 o od f g s0 s1) sz [.ref (h0 0), .int a1, .ref o] (some (.int (iI (lawC [1, 2] k : Int)))) (HW cA ad hr h0 o od (fU k f v.toInt64) g s0 s1) 2 12 := by
  generalize erm : ({ frames := 8, cells := 2, slots := 12, locals := 133 } : Room) = rm
  refine hMet (by decide) (Nat.le_of_ble_eq_true rfl) ?_
  intro p e s m below meth c hx hb hr9 hlocks hml hts hown hK hP A eA hD hS hA hsz hN hE hV hX htab ls hl
  have hl : lv_has ls 4 [(0, .ref (h0 0)), (1, .int a1), (2, .ref o)] := hl
  clear eA
  refine lv_aload_n hx hb dL_parent_0 rfl (lv_at hl 2 rfl) ?_
  refine lv_iconst (v := 0) hx hb dL_parent_1 (by decide) ?_
  refine lv_aload_n hx hb dL_parent_2 rfl (lv_at hl 0 rfl) ?_
  refine lv_iload_n hx hb dL_parent_3 rfl (lv_at hl 1 rfl) ?_
  refine vCall (w2 := HW cA ad hr h0 o od f g s0 s1) (vRunV (n := 1) (As := [.int a1]) (rest := [.int 0, .ref o]) ⟨hx, hb, hml, hown, hts⟩ (kX12_parent l hl9 D cA ad hr h0 _ N a1 s0 (k, v) h) qco_X12_parent qml_L_61 qin_X12_parent qse_X12_parent qini_X12 (by decide +kernel) (by rw [← erm]; rfl) hN hE hV hS hA hK hP hD (mid 2 61) (mid_C (A := HA cA o od f g) (B := ThlW cA ad hr h0 s0) (C := RowW cA hr s1) rfl rfl) (mid_nd _ _) (q0 := 0) rfl rfl rfl rfl rfl hl.1 rfl (lv_room (Nat.le_of_ble_eq_true rfl)) dL_parent_4 ⟨(by rw [← erm]; exact Nat.le_of_ble_eq_true rfl), (by rw [← erm]; exact Nat.le_of_ble_eq_true rfl)⟩) hP hD hS hA (mid 2 61) (mid_C (A := HA cA o od f g) (B := ThlW cA ad hr h0 s0) (C := RowW cA hr s1) rfl rfl) rfl (mid_H (A := HA cA o od f g) (B := ThlW cA ad hr h0 s0) (B' := ThlW cA ad hr h0 s0) (C := RowW cA hr s1) rfl rfl rfl) (fun hne q9 ce H locs hP hD hS hc1 hc2 hc3 => ?_) (fun hk H locs hP hD hS => ?_)
  · rcases hq with hq | hq
    · exact absurd hq hne
    rcases List.mem_cons.mp hq with hq | hq
    · subst hq
      refine vx_catch hown [] ⟨0, 9, 12, 21⟩ [⟨0, 9, 15, 30⟩] htab hp0 (by decide) (by decide) (hts _ qcx_L_21) (hN.use qca_1) hc1 hc2 hc3 ?_
      refine lv_astore_n (lv' := [(3, .ref q9), (0, .ref (h0 0)), (1, .int a1), (2, .ref o)]) hx hb dL_parent_12 rfl hl (by decide) rfl (fun ls hl => ?_)
      refine lv_iconst (v := iI (lawC [1, 2] 1 : Int)) hx hb dL_parent_13 (by decide +kernel) ?_
      exact hIret hx hb hr9 hlocks hP hK hD hS dL_parent_14
    have hq := List.mem_singleton.mp hq
    subst hq
    refine vx_catch hown [⟨0, 9, 12, 21⟩] ⟨0, 9, 15, 30⟩ [] htab (hpc (.inr ⟨by decide, xEx 1, hts _ qcx_L_21, hX 1 0 (by decide) (by decide) (by decide)⟩) hp0) (by decide) (by decide) (hts _ qcx_L_30) (hN.use qca_2) hc1 hc2 hc3 ?_
    refine lv_astore_n (lv' := [(3, .ref q9), (0, .ref (h0 0)), (1, .int a1), (2, .ref o)]) hx hb dL_parent_15 rfl hl (by decide) rfl (fun ls hl => ?_)
    refine lv_iconst (v := iI (lawC [1, 2] 2 : Int)) hx hb dL_parent_16 (by decide +kernel) ?_
    exact hIret hx hb hr9 hlocks hP hK hD hS dL_parent_17
  · subst hk
    refine lv_i2l (v := v.toInt64) hx hb dL_parent_7 rfl ?_
    refine xLast (w2 := fun zz => HW cA ad hr h0 o od zz g s0 s1) hx hb hK hP hD hS 0 2 rfl rfl (x_lit (n := 1) (k := 0) (by decide)) (fun _ => rfl) dL_parent_8 (fun g9 eg9 H locs hP hD hS => ?_)
    subst eg9
    refine lv_goto (tgt := 18) hx hb dL_parent_9 (by decide) ?_
    refine lv_iconst (v := iI (lawC [1, 2] 0 : Int)) hx hb dL_parent_18 (by decide +kernel) ?_
    exact hIret hx hb hr9 hlocks hP hK hD hS dL_parent_19
set_option maxRecDepth 100000 in
set_option maxHeartbeats 4000000 in
theorem h_debits (l : Launch) (hl9 : l.stackTraces = false) (D : va_G) (cA : Nat → ClassId) (ad : Nat → Nat) (hr : Nat → Nat → Nat) (h0 : Nat → Nat) (o od sz N : Nat) (a1 : Int32) (f : Nat → Int64) (g : Nat → UInt64) (s0 : ThlS) (s1 : Nat → BooS) (k : Nat) (v : Int64) (h : fX12_debits N a1 s0 = some (k, v)) (hq : k = 0 ∨ k ∈ ([1] : List Nat)) : hM l yL_debits cL_debits 4 hh_debits ({ frames := 8, cells := 1, slots := 6, locals := 132 }) D cA ad (HW cA ad hr h0 o od f g s0 s1) sz [.ref (h0 0), .int a1, .ref o] (some (.int (iI (lawC [1] k : Int)))) (HW cA ad hr h0 o od (fU k f v) g s0 s1) 1 6 := by
  generalize erm : ({ frames := 8, cells := 1, slots := 6, locals := 132 } : Room) = rm
  refine hMet (by decide) (Nat.le_of_ble_eq_true rfl) ?_
  intro p e s m below meth c hx hb hr9 hlocks hml hts hown hK hP A eA hD hS hA hsz hN hE hV hX htab ls hl
  have hl : lv_has ls 4 [(0, .ref (h0 0)), (1, .int a1), (2, .ref o)] := hl
  clear eA
  refine lv_aload_n hx hb dL_debits_0 rfl (lv_at hl 2 rfl) ?_
  refine lv_iconst (v := 0) hx hb dL_debits_1 (by decide) ?_
  refine lv_aload_n hx hb dL_debits_2 rfl (lv_at hl 0 rfl) ?_
  refine lv_iload_n hx hb dL_debits_3 rfl (lv_at hl 1 rfl) ?_
  refine vCall (w2 := HW cA ad hr h0 o od f g s0 s1) (vRunV (n := 1) (As := [.int a1]) (rest := [.int 0, .ref o]) ⟨hx, hb, hml, hown, hts⟩ (kX12_debits l hl9 D cA ad hr h0 _ N a1 s0 (k, v) h) qco_X12_debits qml_L_64 qin_X12_debits qse_X12_debits qini_X12 (by decide +kernel) (by rw [← erm]; rfl) hN hE hV hS hA hK hP hD (mid 2 61) (mid_C (A := HA cA o od f g) (B := ThlW cA ad hr h0 s0) (C := RowW cA hr s1) rfl rfl) (mid_nd _ _) (q0 := 0) rfl rfl rfl rfl rfl hl.1 rfl (lv_room (Nat.le_of_ble_eq_true rfl)) dL_debits_4 ⟨(by rw [← erm]; exact Nat.le_of_ble_eq_true rfl), (by rw [← erm]; exact Nat.le_of_ble_eq_true rfl)⟩) hP hD hS hA (mid 2 61) (mid_C (A := HA cA o od f g) (B := ThlW cA ad hr h0 s0) (C := RowW cA hr s1) rfl rfl) rfl (mid_H (A := HA cA o od f g) (B := ThlW cA ad hr h0 s0) (B' := ThlW cA ad hr h0 s0) (C := RowW cA hr s1) rfl rfl rfl) (fun hne q9 ce H locs hP hD hS hc1 hc2 hc3 => ?_) (fun hk H locs hP hD hS => ?_)
  · rcases hq with hq | hq
    · exact absurd hq hne
    have hq := List.mem_singleton.mp hq
    subst hq
    refine vx_catch hown [] ⟨0, 8, 11, 21⟩ [] htab hp0 (by decide) (by decide) (hts _ qcx_L_21) (hN.use qca_1) hc1 hc2 hc3 ?_
    refine lv_astore_n (lv' := [(3, .ref q9), (0, .ref (h0 0)), (1, .int a1), (2, .ref o)]) hx hb dL_debits_11 rfl hl (by decide) rfl (fun ls hl => ?_)
    refine lv_iconst (v := iI (lawC [1] 1 : Int)) hx hb dL_debits_12 (by decide +kernel) ?_
    exact hIret hx hb hr9 hlocks hP hK hD hS dL_debits_13
  · subst hk
    refine xLast (w2 := fun zz => HW cA ad hr h0 o od zz g s0 s1) hx hb hK hP hD hS 0 2 rfl rfl (x_lit (n := 1) (k := 0) (by decide)) (fun _ => rfl) dL_debits_7 (fun g9 eg9 H locs hP hD hS => ?_)
    subst eg9
    refine lv_goto (tgt := 14) hx hb dL_debits_8 (by decide) ?_
    refine lv_iconst (v := iI (lawC [1] 0 : Int)) hx hb dL_debits_14 (by decide +kernel) ?_
    exact hIret hx hb hr9 hlocks hP hK hD hS dL_debits_15
