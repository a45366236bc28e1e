/-! ===== the law's helpers: one call, its answer laid down, or the exception's number ===== -/
abbrev HA (cA : Nat → ClassId) (o od : Nat) (f : Nat → Int64) (g : Nat → UInt64) : va_W := [(o, .inl (cA 2, 1, .inr (.inl f))), (od, .inl (cA 6, 1, .inr (.inr (.inr (.inl g)))))]
abbrev HW (cA : Nat → ClassId) (ad : Nat → Nat) (hr : Nat → Nat → Nat) (h0 : Nat → Nat) (o od : Nat) (f : Nat → Int64) (g : Nat → UInt64) (t : ThlS) (r : Nat → BooS) : va_W := HA cA o od f g ++ (ThlW cA ad hr h0 t ++ RowW cA hr r)
def fU (k : Nat) (f : Nat → Int64) (v : Int64) : Nat → Int64 := if k = 0 then vp_updL f 0 v else f
def fD (k : Nat) (g : Nat → UInt64) (v : UInt64) : Nat → UInt64 := if k = 0 then vf_upd g 0 v else g
def hB (v : Int32) : Int64 := if v = 0 then 0 else 1
theorem TR_len (cA : Nat → ClassId) (ad : Nat → Nat) (hr : Nat → Nat → Nat) (h0 : Nat → Nat) (t : ThlS) (r : Nat → BooS) : (ThlW cA ad hr h0 t ++ RowW cA hr r).length = 286 := by
  rw [List.length_append, RowW_len]
  rfl
theorem TR_fst (cA : Nat → ClassId) (ad : Nat → Nat) (hr : Nat → Nat → Nat) (h0 : Nat → Nat) (t t' : ThlS) (r r' : Nat → BooS) : (ThlW cA ad hr h0 t ++ RowW cA hr r).map Prod.fst = (ThlW cA ad hr h0 t' ++ RowW cA hr r').map Prod.fst := by
  rw [List.map_append, List.map_append, RowW_fst cA hr r r']
  rfl
theorem hp0 {α : Type} {P : α → Prop} : ∀ z ∈ ([] : List α), P z := fun _ h => nomatch h
theorem hpc {α : Type} {P : α → Prop} {a : α} {L : List α} (h : P a) (t : ∀ z ∈ L, P z) : ∀ z ∈ a :: L, P z := fun z hz => (List.mem_cons.mp hz).elim (fun e => by rw [e]; exact h) (t z)
section HI
variable {p : Program} {l : Launch} {e : Env} {R : Room} {s : State} {m : MethodId} {args : Array Value} {below : List Frame} {meth : Method} {c : Code} {H : Heap} {locs : List Loc} {mc ms : Nat}
variable {cc : ByteArray} {pc : Nat} {ls : Array Slot} {D : va_G} {cA : Nat → ClassId} {A : Nat → Prop} {ws' : va_W}
theorem hIret {v : Int32} (hx : p.tables.exec = Jvm.exec) (hb : c.code = cc) (hr : meth.sig.returnType = some .int) (hlocks : meth.locks = false) (hP : va_P D vwCl ws' H) (hK : va_K D vwCl (xT cA) s) (hD : va_D A ws') (hS : va_S A s.heap H locs) (hdg : decode cc pc = .ok (.ireturn, 1)) :
    W p l e R s m args below meth c H locs mc ms (MQ below (xQ D cA A ws' (some (.int v))) args s mc ms A) (F0 m pc ls [.int v]) :=
  W.iret hx hb hr (fun t ht hW => ⟨⟨rfl, by rw [ht]; exact hP, va_K.moved hW.alike hK, hD⟩, hS.F ht⟩) hS.2.2 hdg hlocks
end HI
set_option maxRecDepth 100000 in
set_option maxHeartbeats 4000000 in
theorem h_open (l : Launch) (hl9 : l.stackTraces = false) (D : va_G) (cA : Nat → ClassId) (ad : Nat → Nat) (hr : Nat → Nat → Nat) (h0 : Nat → Nat) (o od sz N : Nat) (a1 : Int32) (f : Nat → Int64) (g : Nat → UInt64) (s0 : ThlS) (s1 : Nat → BooS) (k : Nat) (v : Int32) (t9 : ThlS) (r9 : Nat → BooS) (h : fX12_open N a1 s0 s1 = some (k, v, t9, r9)) (hq : k = 0 ∨ k ∈ ([3, 4] : List Nat)) : hM l yL_open cL_open 4 hh_open ({ frames := 8, cells := 1, slots := 6, locals := 144 }) D cA ad (HW cA ad hr h0 o od f g s0 s1) sz [.ref (h0 0), .int a1, .ref o] (some (.int (iI (lawC [3, 4] k : Int)))) (HW cA ad hr h0 o od (fU k f v.toInt64) g t9 r9) 1 6 := by
  generalize erm : ({ frames := 8, cells := 1, slots := 6, locals := 144 } : Room) = rm
  refine hMet (by decide) (Nat.le_of_ble_eq_true rfl) ?_
  intro p e s m below meth c hx hb hr9 hlocks hml hts hown hK hP A eA hD hS hA hsz hN hE hV hX htab ls hl
  have hl : lv_has ls 4 [(0, .ref (h0 0)), (1, .int a1), (2, .ref o)] := hl
  clear eA
  refine lv_aload_n hx hb dL_open_0 rfl (lv_at hl 2 rfl) ?_
  refine lv_iconst (v := 0) hx hb dL_open_1 (by decide) ?_
  refine lv_aload_n hx hb dL_open_2 rfl (lv_at hl 0 rfl) ?_
  refine lv_iload_n hx hb dL_open_3 rfl (lv_at hl 1 rfl) ?_
  refine vCall (w2 := HW cA ad hr h0 o od f g t9 r9) (vRunV (n := 1) (As := [.int a1]) (rest := [.int 0, .ref o]) ⟨hx, hb, hml, hown, hts⟩ (kX12_open l hl9 D cA ad hr h0 _ N a1 s0 s1 (k, v, t9, r9) h) qco_X12_open qml_L_7 qin_X12_open qse_X12_open qini_X12 (by decide +kernel) (by rw [← erm]; rfl) hN hE hV hS hA hK hP hD (mid 2 286) (mid_C0 (A := HA cA o od f g) (B := ThlW cA ad hr h0 s0 ++ RowW cA hr s1) rfl (TR_len cA ad hr h0 s0 s1)) (mid_nd _ _) (q0 := 0) rfl rfl rfl rfl rfl hl.1 rfl (lv_room (Nat.le_of_ble_eq_true rfl)) dL_open_4 ⟨(by rw [← erm]; exact Nat.le_of_ble_eq_true rfl), (by rw [← erm]; exact Nat.le_of_ble_eq_true rfl)⟩) hP hD hS hA (mid 2 286) (mid_C0 (A := HA cA o od f g) (B := ThlW cA ad hr h0 s0 ++ RowW cA hr s1) rfl (TR_len cA ad hr h0 s0 s1)) (TR_fst cA ad hr h0 t9 s0 r9 s1) (mid_H0 (A := HA cA o od f g) (B := ThlW cA ad hr h0 s0 ++ RowW cA hr s1) (B' := ThlW cA ad hr h0 t9 ++ RowW cA hr r9) rfl (TR_len cA ad hr h0 s0 s1) (TR_len cA ad hr h0 t9 r9)) (fun hne q9 ce H locs hP hD hS hc1 hc2 hc3 => ?_) (fun hk H locs hP hD hS => ?_)
  · rcases hq with hq | hq
    · exact absurd hq hne
    rcases List.mem_cons.mp hq with hq | hq
    · subst hq
      refine vx_catch hown [] ⟨0, 9, 12, 13⟩ [⟨0, 9, 15, 15⟩] htab hp0 (by decide) (by decide) (hts _ qcx_L_13) (hN.use qca_3) hc1 hc2 hc3 ?_
      refine lv_astore_n (lv' := [(3, .ref q9), (0, .ref (h0 0)), (1, .int a1), (2, .ref o)]) hx hb dL_open_12 rfl hl (by decide) rfl (fun ls hl => ?_)
      refine lv_iconst (v := iI (lawC [3, 4] 3 : Int)) hx hb dL_open_13 (by decide +kernel) ?_
      exact hIret hx hb hr9 hlocks hP hK hD hS dL_open_14
    have hq := List.mem_singleton.mp hq
    subst hq
    refine vx_catch hown [⟨0, 9, 12, 13⟩] ⟨0, 9, 15, 15⟩ [] htab (hpc (.inr ⟨by decide, xEx 3, hts _ qcx_L_13, hX 3 2 (by decide) (by decide) (by decide)⟩) hp0) (by decide) (by decide) (hts _ qcx_L_15) (hN.use qca_4) hc1 hc2 hc3 ?_
    refine lv_astore_n (lv' := [(3, .ref q9), (0, .ref (h0 0)), (1, .int a1), (2, .ref o)]) hx hb dL_open_15 rfl hl (by decide) rfl (fun ls hl => ?_)
    refine lv_iconst (v := iI (lawC [3, 4] 4 : Int)) hx hb dL_open_16 (by decide +kernel) ?_
    exact hIret hx hb hr9 hlocks hP hK hD hS dL_open_17
  · subst hk
    refine lv_i2l (v := v.toInt64) hx hb dL_open_7 rfl ?_
    refine xLast (w2 := fun zz => HW cA ad hr h0 o od zz g t9 r9) hx hb hK hP hD hS 0 2 rfl rfl (x_lit (n := 1) (k := 0) (by decide)) (fun _ => rfl) dL_open_8 (fun g9 eg9 H locs hP hD hS => ?_)
    subst eg9
    refine lv_goto (tgt := 18) hx hb dL_open_9 (by decide) ?_
    refine lv_iconst (v := iI (lawC [3, 4] 0 : Int)) hx hb dL_open_18 (by decide +kernel) ?_
    exact hIret hx hb hr9 hlocks hP hK hD hS dL_open_19
set_option maxRecDepth 100000 in
set_option maxHeartbeats 4000000 in
theorem h_openBelow (l : Launch) (hl9 : l.stackTraces = false) (D : va_G) (cA : Nat → ClassId) (ad : Nat → Nat) (hr : Nat → Nat → Nat) (h0 : Nat → Nat) (o od sz N : Nat) (a1 : Int32) (f : Nat → Int64) (g : Nat → UInt64) (s0 : ThlS) (s1 : Nat → BooS) (k : Nat) (v : Int32) (t9 : ThlS) (r9 : Nat → BooS) (h : fX12_openBelow N a1 s0 s1 = some (k, v, t9, r9)) (hq : k = 0 ∨ k ∈ ([1, 4] : List Nat)) : hM l yL_openBelow cL_openBelow 4 hh_openBelow ({ frames := 8, cells := 1, slots := 6, locals := 144 }) D cA ad (HW cA ad hr h0 o od f g s0 s1) sz [.ref (h0 0), .int a1, .ref o] (some (.int (iI (lawC [1, 4] k : Int)))) (HW cA ad hr h0 o od (fU k f v.toInt64) g t9 r9) 1 6 := by
  generalize erm : ({ frames := 8, cells := 1, slots := 6, locals := 144 } : Room) = rm
  refine hMet (by decide) (Nat.le_of_ble_eq_true rfl) ?_
  intro p e s m below meth c hx hb hr9 hlocks hml hts hown hK hP A eA hD hS hA hsz hN hE hV hX htab ls hl
  have hl : lv_has ls 4 [(0, .ref (h0 0)), (1, .int a1), (2, .ref o)] := hl
  clear eA
  refine lv_aload_n hx hb dL_openBelow_0 rfl (lv_at hl 2 rfl) ?_
  refine lv_iconst (v := 0) hx hb dL_openBelow_1 (by decide) ?_
  refine lv_aload_n hx hb dL_openBelow_2 rfl (lv_at hl 0 rfl) ?_
  refine lv_iload_n hx hb dL_openBelow_3 rfl (lv_at hl 1 rfl) ?_
  refine vCall (w2 := HW cA ad hr h0 o od f g t9 r9) (vRunV (n := 1) (As := [.int a1]) (rest := [.int 0, .ref o]) ⟨hx, hb, hml, hown, hts⟩ (kX12_openBelow l hl9 D cA ad hr h0 _ N a1 s0 s1 (k, v, t9, r9) h) qco_X12_openBelow qml_L_17 qin_X12_openBelow qse_X12_openBelow qini_X12 (by decide +kernel) (by rw [← erm]; rfl) hN hE hV hS hA hK hP hD (mid 2 286) (mid_C0 (A := HA cA o od f g) (B := ThlW cA ad hr h0 s0 ++ RowW cA hr s1) rfl (TR_len cA ad hr h0 s0 s1)) (mid_nd _ _) (q0 := 0) rfl rfl rfl rfl rfl hl.1 rfl (lv_room (Nat.le_of_ble_eq_true rfl)) dL_openBelow_4 ⟨(by rw [← erm]; exact Nat.le_of_ble_eq_true rfl), (by rw [← erm]; exact Nat.le_of_ble_eq_true rfl)⟩) hP hD hS hA (mid 2 286) (mid_C0 (A := HA cA o od f g) (B := ThlW cA ad hr h0 s0 ++ RowW cA hr s1) rfl (TR_len cA ad hr h0 s0 s1)) (TR_fst cA ad hr h0 t9 s0 r9 s1) (mid_H0 (A := HA cA o od f g) (B := ThlW cA ad hr h0 s0 ++ RowW cA hr s1) (B' := ThlW cA ad hr h0 t9 ++ RowW cA hr r9) rfl (TR_len cA ad hr h0 s0 s1) (TR_len cA ad hr h0 t9 r9)) (fun hne q9 ce H locs hP hD hS hc1 hc2 hc3 => ?_) (fun hk H locs hP hD hS => ?_)
  · rcases hq with hq | hq
    · exact absurd hq hne
    rcases List.mem_cons.mp hq with hq | hq
    · subst hq
      refine vx_catch hown [] ⟨0, 9, 12, 21⟩ [⟨0, 9, 15, 15⟩] htab hp0 (by decide) (by decide) (hts _ qcx_L_21) (hN.use qca_1) hc1 hc2 hc3 ?_
      refine lv_astore_n (lv' := [(3, .ref q9), (0, .ref (h0 0)), (1, .int a1), (2, .ref o)]) hx hb dL_openBelow_12 rfl hl (by decide) rfl (fun ls hl => ?_)
      refine lv_iconst (v := iI (lawC [1, 4] 1 : Int)) hx hb dL_openBelow_13 (by decide +kernel) ?_
      exact hIret hx hb hr9 hlocks hP hK hD hS dL_openBelow_14
    have hq := List.mem_singleton.mp hq
    subst hq
    refine vx_catch hown [⟨0, 9, 12, 21⟩] ⟨0, 9, 15, 15⟩ [] htab (hpc (.inr ⟨by decide, xEx 1, hts _ qcx_L_21, hX 3 0 (by decide) (by decide) (by decide)⟩) hp0) (by decide) (by decide) (hts _ qcx_L_15) (hN.use qca_4) hc1 hc2 hc3 ?_
    refine lv_astore_n (lv' := [(3, .ref q9), (0, .ref (h0 0)), (1, .int a1), (2, .ref o)]) hx hb dL_openBelow_15 rfl hl (by decide) rfl (fun ls hl => ?_)
    refine lv_iconst (v := iI (lawC [1, 4] 4 : Int)) hx hb dL_openBelow_16 (by decide +kernel) ?_
    exact hIret hx hb hr9 hlocks hP hK hD hS dL_openBelow_17
  · subst hk
    refine lv_i2l (v := v.toInt64) hx hb dL_openBelow_7 rfl ?_
    refine xLast (w2 := fun zz => HW cA ad hr h0 o od zz g t9 r9) hx hb hK hP hD hS 0 2 rfl rfl (x_lit (n := 1) (k := 0) (by decide)) (fun _ => rfl) dL_openBelow_8 (fun g9 eg9 H locs hP hD hS => ?_)
    subst eg9
    refine lv_goto (tgt := 18) hx hb dL_openBelow_9 (by decide) ?_
    refine lv_iconst (v := iI (lawC [1, 4] 0 : Int)) hx hb dL_openBelow_18 (by decide +kernel) ?_
    exact hIret hx hb hr9 hlocks hP hK hD hS dL_openBelow_19
