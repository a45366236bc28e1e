/-! ===== members that divide floats ===== -/
section FE
variable {p : Program} {l : Launch} {e : Env} {R : Room} {s : State} {m : MethodId} {args : Array Value} {below : List Frame} {meth : Method} {c : Code} {H : Heap} {locs : List Loc} {mc ms : Nat}
variable {cc : ByteArray} {pc : Nat} {ls : Array Slot} {D : va_G} {cA : Nat → ClassId} {A : Nat → Prop} {ws' : va_W} {XC : String → State → State → Prop}
theorem vDret {v : UInt64} (hx : p.tables.exec = Jvm.exec) (hb : c.code = cc) (hr : meth.sig.returnType = some .double) (hlocks : meth.locks = false) (hP : va_P D vwCl ws' H) (hK : va_K D vwCl (xT cA) s) (hD : va_D A ws') (hS : va_S A s.heap H locs) (hdg : decode cc pc = .ok (.dreturn, 1)) :
    W p l e R s m args below meth c H locs mc ms (vx_MQ below (vQc D cA A 0 ws' (some (.double v))) XC args s mc ms A) (F0 m pc ls [.double v]) :=
  vx_ret (W.dret hx hb hr (fun t ht hW => ⟨rfl, ⟨rfl, by rw [ht]; exact hP, va_K.moved hW.alike hK, hD⟩, hS.F ht⟩) hS.2.2 hdg hlocks)
theorem vFret {v : UInt32} (hx : p.tables.exec = Jvm.exec) (hb : c.code = cc) (hr : meth.sig.returnType = some .float) (hlocks : meth.locks = false) (hP : va_P D vwCl ws' H) (hK : va_K D vwCl (xT cA) s) (hD : va_D A ws') (hS : va_S A s.heap H locs) (hdg : decode cc pc = .ok (.freturn, 1)) :
    W p l e R s m args below meth c H locs mc ms (vx_MQ below (vQc D cA A 0 ws' (some (.float v))) XC args s mc ms A) (F0 m pc ls [.float v]) :=
  vx_ret (W.fret hx hb hr (fun t ht hW => ⟨rfl, ⟨rfl, by rw [ht]; exact hP, va_K.moved hW.alike hK, hD⟩, hS.F ht⟩) hS.2.2 hdg hlocks)
theorem xDret {v : UInt64} (hx : p.tables.exec = Jvm.exec) (hb : c.code = cc) (hr : meth.sig.returnType = some .double) (hlocks : meth.locks = false) (hP : va_P D vwCl ws' H) (hK : va_K D vwCl (xT cA) s) (hD : va_D A ws') (hS : va_S A s.heap H locs) (hdg : decode cc pc = .ok (.dreturn, 1)) :
    W p l e R s m args below meth c H locs 0 0 (MQ below (xQ D cA A ws' (some (.double v))) args s 0 0 A) (F0 m pc ls [.double v]) :=
  W.dret hx hb hr (fun t ht hW => ⟨⟨rfl, by rw [ht]; exact hP, va_K.moved hW.alike hK, hD⟩, hS.F ht⟩) hS.2.2 hdg hlocks
theorem xFret {v : UInt32} (hx : p.tables.exec = Jvm.exec) (hb : c.code = cc) (hr : meth.sig.returnType = some .float) (hlocks : meth.locks = false) (hP : va_P D vwCl ws' H) (hK : va_K D vwCl (xT cA) s) (hD : va_D A ws') (hS : va_S A s.heap H locs) (hdg : decode cc pc = .ok (.freturn, 1)) :
    W p l e R s m args below meth c H locs 0 0 (MQ below (xQ D cA A ws' (some (.float v))) args s 0 0 A) (F0 m pc ls [.float v]) :=
  W.fret hx hb hr (fun t ht hW => ⟨⟨rfl, by rw [ht]; exact hP, va_K.moved hW.alike hK, hD⟩, hS.F ht⟩) hS.2.2 hdg hlocks
end FE
theorem vz64 {r : UInt64} (h : decide (r &&& 0x7fffffffffffffff ≤ 0x7ff0000000000000) = true) : vf_n64 r := by
  unfold vf_n64
  exact of_decide_eq_true h
theorem vz32 {r : UInt32} (h : decide (r &&& 0x7fffffff ≤ 0x7f800000) = true) : vf_n32 r := by
  unfold vf_n32
  exact of_decide_eq_true h
def fX12_meanPrice (N : Nat)  (s0 : ThlS) : Option (Nat × UInt64) :=
  xcall (fX11_costumes N s0.1.2.2.2.1) fun q1 =>
  if q1 = 0 then
    some (6, 0)
  else
    xcall (fX11_costByLots N q1 s0.1.2.2.2.1) fun q3 =>
    xnz (decide ((FP.ddiv (FP.i2d q3) (FP.i2d q1)) &&& 0x7fffffffffffffff ≤ 0x7ff0000000000000)) <|
    some (0, FP.ddiv (FP.i2d q3) (FP.i2d q1))
set_option maxRecDepth 100000 in
set_option maxHeartbeats 4000000 in
theorem kX12_meanPrice (l : Launch) (hl9 : l.stackTraces = false) (D : va_G) (cA : Nat → ClassId) (ad : Nat → Nat) (hr : Nat → Nat → Nat) (h0 : Nat → Nat) (sz N : Nat)  (s0 : ThlS) (q : Nat × UInt64) (h : fX12_meanPrice N s0 = some q) : vM l yX12_meanPrice cX12_meanPrice 2 (some .double) ({ frames := 6, cells := 1, slots := 6, locals := 90 }) D cA ad (ThlW cA ad hr h0 s0) sz [.ref (h0 0)] q.1 (some (.double q.2)) (ThlW cA ad hr h0 s0) 1 6 := by
  generalize erm : ({ frames := 6, cells := 1, slots := 6, locals := 90 } : Room) = rm
  refine vMet (by decide) (Nat.le_of_ble_eq_true rfl) ?_
  intro p e s m below meth c hx hb hr9 hlocks hml hts hown hin hK hP A eA hD hS hA hsz hN hE hV htab ls hl
  have hl : lv_has ls 2 [(0, .ref (h0 0))] := hl
  clear eA
  rw [fX12_meanPrice] at h
  refine lv_aload_n hx hb dX12_meanPrice_0 rfl (lv_at hl 0 rfl) ?_
  refine va_get (D := D) (ci := 11) (v := .ref (h0 1)) (C := RX12) (T := TX12) (N := 10) hx hb hts iX12 hown hK hP 0 rfl rfl 0 (by decide) (hts _ qfl_X12_10) (fun _ h9 => h9) rfl dX12_meanPrice_1 ?_
  refine va_getN (D := D) (ci := 4) (v := .ref (h0 20)) (C := RX3) (T := TX3) (N := 7) hx hb hts iX3 hown hK hP 1 rfl rfl 3 (by decide) (hN.use qfn_X12_133) (fun _ h9 => h9) rfl dX12_meanPrice_4 ?_
  obtain ⟨q1, c1, h⟩ := x_call h
  refine xCallH (w2 := ThlW cA ad hr h0 s0) (zRunV (n := 0) (As := []) (rest := []) ⟨hx, hb, hml, hown, hts⟩ (kX11_costumes l D cA ad (fun k => h0 (k + 20)) _ N s0.1.2.2.2.1 q1 c1) qco_X11_costumes qml_X12_278 qin_X11_costumes qse_X11_costumes qini_X11 (by decide +kernel) (by rw [← erm]; rfl) hN hE hS hA hK hP hD [20, 21, 22] rfl rfl (q0 := 0) rfl rfl rfl rfl rfl hl.1 rfl (lv_room (Nat.le_of_ble_eq_true rfl)) dX12_meanPrice_7 ⟨Nat.zero_le _, Nat.zero_le _⟩) hP hD hS hA [20, 21, 22] rfl rfl (xselH [none, none, none, none, none, none, none, none, none, none, none, none, none, none, none, none, none, none, none, none, some 0, some 1, some 2, none, none, none, none, none, none, none, none, none, none, none, none, none, none, none, none, none, none, none, none, none, none, none, none, none, none, none, none, none, none, none, none, none, none, none, none, none, none] rfl (by decide +kernel)) (fun H locs hP hD hS => ?_)
  refine lv_istore_n (lv' := [(1, .int q1), (0, .ref (h0 0))]) hx hb dX12_meanPrice_10 rfl hl (by decide) rfl (fun ls hl => ?_)
  refine lv_iload_n hx hb dX12_meanPrice_11 rfl (lv_at hl 0 rfl) ?_
  refine lv_if_ne (tgt := 26) hx hb dX12_meanPrice_12 (by decide) (fun c2 => ?_) (fun c2 => ?_)
  · have h := x_f h c2
    refine lv_aload_n hx hb dX12_meanPrice_26 rfl (lv_at hl 1 rfl) ?_
    refine va_get (D := D) (ci := 11) (v := .ref (h0 1)) (C := RX12) (T := TX12) (N := 10) hx hb hts iX12 hown hK hP 0 rfl rfl 0 (by decide) (hts _ qfl_X12_10) (fun _ h9 => h9) rfl dX12_meanPrice_27 ?_
    refine va_getN (D := D) (ci := 4) (v := .ref (h0 20)) (C := RX3) (T := TX3) (N := 7) hx hb hts iX3 hown hK hP 1 rfl rfl 3 (by decide) (hN.use qfn_X12_133) (fun _ h9 => h9) rfl dX12_meanPrice_30 ?_
    refine lv_iload_n hx hb dX12_meanPrice_33 rfl (lv_at hl 0 rfl) ?_
    obtain ⟨q3, c3, h⟩ := x_call h
    refine xCallH (w2 := ThlW cA ad hr h0 s0) (zRunV (n := 1) (As := [.int q1]) (rest := []) ⟨hx, hb, hml, hown, hts⟩ (kX11_costByLots l D cA ad (fun k => h0 (k + 20)) _ N q1 s0.1.2.2.2.1 q3 c3) qco_X11_costByLots qml_X12_285 qin_X11_costByLots qse_X11_costByLots qini_X11 (by decide +kernel) (by rw [← erm]; rfl) hN hE hS hA hK hP hD [20, 21, 22] rfl rfl (q0 := 0) rfl rfl rfl rfl rfl hl.1 rfl (lv_room (Nat.le_of_ble_eq_true rfl)) dX12_meanPrice_34 ⟨Nat.zero_le _, Nat.zero_le _⟩) hP hD hS hA [20, 21, 22] rfl rfl (xselH [none, none, none, none, none, none, none, none, none, none, none, none, none, none, none, none, none, none, none, none, some 0, some 1, some 2, none, none, none, none, none, none, none, none, none, none, none, none, none, none, none, none, none, none, none, none, none, none, none, none, none, none, none, none, none, none, none, none, none, none, none, none, none, none] rfl (by decide +kernel)) (fun H locs hP hD hS => ?_)
    refine lv_i2d hx hb dX12_meanPrice_37 ?_
    refine lv_iload_n hx hb dX12_meanPrice_38 rfl (lv_at hl 0 rfl) ?_
    refine lv_i2d hx hb dX12_meanPrice_39 ?_
    obtain ⟨z4, h⟩ := x_nz h
    refine lv_ddiv hx hb dX12_meanPrice_40 (vz64 z4) ?_
    have h := Option.some.inj h
    subst h
    refine W.widen (k := 1) (n := 6) (Nat.le_of_ble_eq_true rfl) (Nat.le_of_ble_eq_true rfl) ?_
    exact vDret hx hb hr9 hlocks hP hK hD hS dX12_meanPrice_41
  · have h := x_t h c2
    have h := Option.some.inj h
    subst h
    exact vThrowW (x := 6) (text := "there are no costumes") (is := 291) hx hb hl9 hown hts hN hV hA (by decide) xThr6 xThg6 (by decide +kernel) hK hP hD hS (hl.1.trans hml.symm) dX12_meanPrice_15 dX12_meanPrice_18 dX12_meanPrice_19 dX12_meanPrice_22 dX12_meanPrice_25 htab (by rw [← erm]; rfl) hlocks (by decide) (Nat.le_of_ble_eq_true rfl) (Nat.le_of_ble_eq_true rfl)
def fX12_claimShare (N : Nat)  (s0 : ThlS) : Option (Nat × UInt32) :=
  xcall (fX1_balanceAt N 2 s0.1.1) fun q1 =>
  xcall (fX1_balanceAt N 0 s0.1.1) fun q2 =>
  xcall (fX1_balanceAt N 1 s0.1.1) fun q3 =>
  xlet ((q2 + q3) + q1) fun x4 =>
  if (lg_cmp x4 0) = 0 then
    some (6, 0)
  else
    xnz (decide ((FP.fdiv (FP.l2f q1) (FP.l2f x4)) &&& 0x7fffffff ≤ 0x7f800000)) <|
    some (0, FP.fdiv (FP.l2f q1) (FP.l2f x4))
set_option maxRecDepth 100000 in
set_option maxHeartbeats 4000000 in
theorem kX12_claimShare (l : Launch) (hl9 : l.stackTraces = false) (D : va_G) (cA : Nat → ClassId) (ad : Nat → Nat) (hr : Nat → Nat → Nat) (h0 : Nat → Nat) (sz N : Nat)  (s0 : ThlS) (q : Nat × UInt32) (h : fX12_claimShare N s0 = some q) : vM l yX12_claimShare cX12_claimShare 5 (some .float) ({ frames := 6, cells := 1, slots := 6, locals := 90 }) D cA ad (ThlW cA ad hr h0 s0) sz [.ref (h0 0)] q.1 (some (.float q.2)) (ThlW cA ad hr h0 s0) 1 6 := by
  generalize erm : ({ frames := 6, cells := 1, slots := 6, locals := 90 } : Room) = rm
  refine vMet (by decide) (Nat.le_of_ble_eq_true rfl) ?_
  intro p e s m below meth c hx hb hr9 hlocks hml hts hown hin hK hP A eA hD hS hA hsz hN hE hV htab ls hl
  have hl : lv_has ls 5 [(0, .ref (h0 0))] := hl
  clear eA
  rw [fX12_claimShare] at h
  refine lv_aload_n hx hb dX12_claimShare_0 rfl (lv_at hl 0 rfl) ?_
  refine va_get (D := D) (ci := 11) (v := .ref (h0 1)) (C := RX12) (T := TX12) (N := 10) hx hb hts iX12 hown hK hP 0 rfl rfl 0 (by decide) (hts _ qfl_X12_10) (fun _ h9 => h9) rfl dX12_claimShare_1 ?_
  refine va_getN (D := D) (ci := 4) (v := .ref (h0 2)) (C := RX3) (T := TX3) (N := 7) hx hb hts iX3 hown hK hP 1 rfl rfl 0 (by decide) (hN.use qfn_X12_51) (fun _ h9 => h9) rfl dX12_claimShare_4 ?_
  refine lv_iconst (v := 2) hx hb dX12_claimShare_7 (by decide) ?_
  obtain ⟨q1, c1, h⟩ := x_call h
  refine xCallH (w2 := ThlW cA ad hr h0 s0) (zRunV (n := 1) (As := [.int 2]) (rest := []) ⟨hx, hb, hml, hown, hts⟩ (kX1_balanceAt l D cA ad (fun k => h0 (k + 2)) _ N 2 s0.1.1 q1 c1) qco_X1_balanceAt qml_X12_196 qin_X1_balanceAt qse_X1_balanceAt qini_X1 (by decide +kernel) (by rw [← erm]; rfl) hN hE hS hA hK hP hD [2, 3, 4, 5, 6] rfl rfl (q0 := 0) rfl rfl rfl rfl rfl hl.1 rfl (lv_room (Nat.le_of_ble_eq_true rfl)) dX12_claimShare_8 ⟨Nat.zero_le _, Nat.zero_le _⟩) hP hD hS hA [2, 3, 4, 5, 6] rfl rfl (xselH [none, none, some 0, some 1, some 2, some 3, some 4, none, none, none, none, none, none, none, none, none, none, none, none, none, none, none, none, none, none, none, none, none, none, none, none, none, none, none, none, none, none, none, none, none, none, none, none, none, none, none, none, none, none, none, none, none, none, none, none, none, none, none, none, none, none] rfl (by decide +kernel)) (fun H locs hP hD hS => ?_)
  refine lv_lstore_n (lv' := [(1, .long q1), (0, .ref (h0 0))]) hx hb dX12_claimShare_11 rfl hl (by decide) rfl (fun ls hl => ?_)
  refine lv_aload_n hx hb dX12_claimShare_12 rfl (lv_at hl 1 rfl) ?_
  refine va_get (D := D) (ci := 11) (v := .ref (h0 1)) (C := RX12) (T := TX12) (N := 10) hx hb hts iX12 hown hK hP 0 rfl rfl 0 (by decide) (hts _ qfl_X12_10) (fun _ h9 => h9) rfl dX12_claimShare_13 ?_
  refine va_getN (D := D) (ci := 4) (v := .ref (h0 2)) (C := RX3) (T := TX3) (N := 7) hx hb hts iX3 hown hK hP 1 rfl rfl 0 (by decide) (hN.use qfn_X12_51) (fun _ h9 => h9) rfl dX12_claimShare_16 ?_
  refine lv_iconst (v := 0) hx hb dX12_claimShare_19 (by decide) ?_
  obtain ⟨q2, c2, h⟩ := x_call h
  refine xCallH (w2 := ThlW cA ad hr h0 s0) (zRunV (n := 1) (As := [.int 0]) (rest := []) ⟨hx, hb, hml, hown, hts⟩ (kX1_balanceAt l D cA ad (fun k => h0 (k + 2)) _ N 0 s0.1.1 q2 c2) qco_X1_balanceAt qml_X12_196 qin_X1_balanceAt qse_X1_balanceAt qini_X1 (by decide +kernel) (by rw [← erm]; rfl) hN hE hS hA hK hP hD [2, 3, 4, 5, 6] rfl rfl (q0 := 0) rfl rfl rfl rfl rfl hl.1 rfl (lv_room (Nat.le_of_ble_eq_true rfl)) dX12_claimShare_20 ⟨Nat.zero_le _, Nat.zero_le _⟩) hP hD hS hA [2, 3, 4, 5, 6] rfl rfl (xselH [none, none, some 0, some 1, some 2, some 3, some 4, none, none, none, none, none, none, none, none, none, none, none, none, none, none, none, none, none, none, none, none, none, none, none, none, none, none, none, none, none, none, none, none, none, none, none, none, none, none, none, none, none, none, none, none, none, none, none, none, none, none, none, none, none, none] rfl (by decide +kernel)) (fun H locs hP hD hS => ?_)
  refine lv_aload_n hx hb dX12_claimShare_23 rfl (lv_at hl 1 rfl) ?_
  refine va_get (D := D) (ci := 11) (v := .ref (h0 1)) (C := RX12) (T := TX12) (N := 10) hx hb hts iX12 hown hK hP 0 rfl rfl 0 (by decide) (hts _ qfl_X12_10) (fun _ h9 => h9) rfl dX12_claimShare_24 ?_
  refine va_getN (D := D) (ci := 4) (v := .ref (h0 2)) (C := RX3) (T := TX3) (N := 7) hx hb hts iX3 hown hK hP 1 rfl rfl 0 (by decide) (hN.use qfn_X12_51) (fun _ h9 => h9) rfl dX12_claimShare_27 ?_
  refine lv_iconst (v := 1) hx hb dX12_claimShare_30 (by decide) ?_
  obtain ⟨q3, c3, h⟩ := x_call h
  refine xCallH (w2 := ThlW cA ad hr h0 s0) (zRunV (n := 1) (As := [.int 1]) (rest := [.long q2]) ⟨hx, hb, hml, hown, hts⟩ (kX1_balanceAt l D cA ad (fun k => h0 (k + 2)) _ N 1 s0.1.1 q3 c3) qco_X1_balanceAt qml_X12_196 qin_X1_balanceAt qse_X1_balanceAt qini_X1 (by decide +kernel) (by rw [← erm]; rfl) hN hE hS hA hK hP hD [2, 3, 4, 5, 6] rfl rfl (q0 := 0) rfl rfl rfl rfl rfl hl.1 rfl (lv_room (Nat.le_of_ble_eq_true rfl)) dX12_claimShare_31 ⟨Nat.zero_le _, Nat.zero_le _⟩) hP hD hS hA [2, 3, 4, 5, 6] rfl rfl (xselH [none, none, some 0, some 1, some 2, some 3, some 4, none, none, none, none, none, none, none, none, none, none, none, none, none, none, none, none, none, none, none, none, none, none, none, none, none, none, none, none, none, none, none, none, none, none, none, none, none, none, none, none, none, none, none, none, none, none, none, none, none, none, none, none, none, none] rfl (by decide +kernel)) (fun H locs hP hD hS => ?_)
  refine lv_ladd hx hb dX12_claimShare_34 ?_
  refine lv_lload_n hx hb dX12_claimShare_35 rfl (lv_at hl 0 rfl) ?_
  refine lv_ladd hx hb dX12_claimShare_36 ?_
  refine lv_topl (fun x4 ex4 => ?_)
  have h := x_let h ex4
  refine lv_lstore_n (lv' := [(3, .long x4), (1, .long q1), (0, .ref (h0 0))]) hx hb dX12_claimShare_37 rfl hl (by decide) rfl (fun ls hl => ?_)
  refine lv_lload_n hx hb dX12_claimShare_38 rfl (lv_at hl 0 rfl) ?_
  refine lv_lconst (v := 0) hx hb dX12_claimShare_39 (by decide) ?_
  refine W.lcmp hx hb dX12_claimShare_40 ?_
  refine lv_if_ne (tgt := 54) hx hb dX12_claimShare_41 (by decide) (fun c5 => ?_) (fun c5 => ?_)
  · have h := x_f h c5
    refine lv_lload_n hx hb dX12_claimShare_54 rfl (lv_at hl 1 rfl) ?_
    refine lv_l2f hx hb dX12_claimShare_55 ?_
    refine lv_lload_n hx hb dX12_claimShare_56 rfl (lv_at hl 0 rfl) ?_
    refine lv_l2f hx hb dX12_claimShare_57 ?_
    obtain ⟨z6, h⟩ := x_nz h
    refine lv_fdiv hx hb dX12_claimShare_58 (vz32 z6) ?_
    have h := Option.some.inj h
    subst h
    refine W.widen (k := 1) (n := 6) (Nat.le_of_ble_eq_true rfl) (Nat.le_of_ble_eq_true rfl) ?_
    exact vFret hx hb hr9 hlocks hP hK hD hS dX12_claimShare_59
  · have h := x_t h c5
    have h := Option.some.inj h
    subst h
    exact vThrow (x := 6) (text := "cash, costumes and claims have the sum 0") (is := 231) hx hb hl9 hown hts hN hV hA (by decide) xThr6 xThg6 (by decide +kernel) hK hP hD hS (hl.1.trans hml.symm) dX12_claimShare_44 dX12_claimShare_47 dX12_claimShare_48 dX12_claimShare_50 dX12_claimShare_53 htab (by rw [← erm]; rfl) hlocks (by decide) (Nat.le_of_ble_eq_true rfl) (Nat.le_of_ble_eq_true rfl)
