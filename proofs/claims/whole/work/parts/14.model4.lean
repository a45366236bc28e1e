/-! the reference, method by method: what it computes, and that its bytes compute it -/
def fX13_matchSize (N : Nat) (a1 : Int32) (s0 : MS) : Option (Int32 × MS) :=
  xcall (fX13_in N a1 1 999) fun q1 =>
  if q1 = 0 then
    xcall (fX13_fails N 1 s0) fun q9 =>
    some (q9.1, q9.2)
  else
    xcall (fX13_chosen N a1 s0) fun q3 =>
    xjoin (fun (t0_4 : Int32) (s0_4 : MS) =>
        some (t0_4, s0_4)
      ) fun J43 =>
    if q3 = 0 then
      xcall (fX13_fails N 2 s0) fun q8 =>
      J43 q8.1 q8.2
    else
      xcall (fX13_members N q3) fun q6 =>
      xcall (fX13_done N q6 s0) fun q7 =>
      J43 q7.1 q7.2
set_option maxRecDepth 100000 in
set_option maxHeartbeats 4000000 in
theorem kX13_matchSize (l : Launch) (D : va_G) (cA : Nat → ClassId) (h0 : Nat → Nat) (sz N : Nat) (a1 : Int32) (s0 : MS) (q : Int32 × MS) (h : fX13_matchSize N a1 s0 = some q) : xM l yX13_matchSize cX13_matchSize 3 (some .int) ({ frames := 3, cells := 0, slots := 0, locals := 68 }) D cA (MW cA h0 s0) sz [.ref (h0 0), .int a1] (some (.int q.1)) (MW cA h0 q.2) := by
  generalize erm : ({ frames := 3, cells := 0, slots := 0, locals := 68 } : Room) = rm
  refine xMet (by decide) (Nat.le_of_ble_eq_true rfl) ?_
  intro p e s m below meth c hx hb hr hlocks hml hts hown hin hK hP A eA hD hS hA hsz ls hl
  have hl : lv_has ls 3 [(0, .ref (h0 0)), (1, .int a1)] := hl
  clear eA
  rw [fX13_matchSize] at h
  refine lv_iload_n hx hb dX13_matchSize_0 rfl (lv_at hl 1 rfl) ?_
  refine lv_iconst (v := 1) hx hb dX13_matchSize_1 (by decide) ?_
  refine lv_sipush (v := 999) hx hb dX13_matchSize_2 (by decide) ?_
  obtain ⟨q1, c1, h⟩ := x_call h
  refine xCall (w2 := MW cA h0 s0) (xRunS (n := 3) (As := [.int a1, .int 1, .int 999]) (rest := []) ⟨hx, hb, hml, hown, hts⟩ (kX13_in l D cA  _ N a1 1 999 q1 c1) qco_X13_in qml_X13_49 qst_X13_in qini_X13 (by decide +kernel) (by rw [← erm]; rfl) hK hP hD [] rfl rfl rfl rfl hl.1 rfl (lv_room (Nat.le_of_ble_eq_true rfl)) dX13_matchSize_5 ⟨Nat.zero_le _, Nat.zero_le _⟩) hP hD hS hA [] [0, 1, 2, 3, 4, 5, 6, 7] [0, 1, 2, 3, 4, 5, 6, 7] rfl (wr := [(h0 0, .inr (12, [.ref (h0 1), .ref (h0 2), .ref (h0 3), .int (s0.2.2.2.1), .ref (h0 4), .int (s0.2.2.2.2.2.1), .ref (h0 5), .int (s0.2.2.2.2.2.2.2.1), .int (s0.2.2.2.2.2.2.2.2.1), .int (s0.2.2.2.2.2.2.2.2.2.1), .ref (h0 6), .int (s0.2.2.2.2.2.2.2.2.2.2.2.1), .int (s0.2.2.2.2.2.2.2.2.2.2.2.2.1), .int (s0.2.2.2.2.2.2.2.2.2.2.2.2.2.1), .int (s0.2.2.2.2.2.2.2.2.2.2.2.2.2.2.1), .ref (h0 7)])), (h0 1, .inl (cA 0, 229, .inl (s0.1))), (h0 2, .inl (cA 0, 229, .inl (s0.2.1))), (h0 3, .inl (cA 0, 1832, .inl (s0.2.2.1))), (h0 4, .inl (cA 0, 229, .inl (s0.2.2.2.2.1))), (h0 5, .inl (cA 1, 60, .inl (s0.2.2.2.2.2.2.1))), (h0 6, .inl (cA 1, 60, .inl (s0.2.2.2.2.2.2.2.2.2.2.1))), (h0 7, .inl (cA 0, 240, .inl (s0.2.2.2.2.2.2.2.2.2.2.2.2.2.2.2)))]) rfl rfl rfl rfl rfl (fun H locs hP hD hS => ?_)
  refine lv_if_ne (tgt := 17) hx hb dX13_matchSize_8 (by decide) (fun c2 => ?_) (fun c2 => ?_)
  · have h := x_f h c2
    refine lv_aload_n hx hb dX13_matchSize_17 rfl (lv_at hl 0 rfl) ?_
    refine lv_iload_n hx hb dX13_matchSize_18 rfl (lv_at hl 1 rfl) ?_
    obtain ⟨q3, c3, h⟩ := x_call h
    refine xCall (w2 := MW cA h0 s0) (xRunV (n := 1) (As := [.int a1]) (rest := []) ⟨hx, hb, hml, hown, hts⟩ (kX13_chosen l D cA h0 _ N a1 s0 q3 c3) qco_X13_chosen qml_X13_149 qin_X13_chosen qse_X13_chosen qini_X13 (by decide +kernel) (by rw [← erm]; rfl) hK hP hD [0, 1, 2, 3, 4, 5, 6, 7] rfl rfl (q0 := 0) rfl rfl rfl rfl rfl hl.1 rfl (lv_room (Nat.le_of_ble_eq_true rfl)) dX13_matchSize_19 ⟨Nat.zero_le _, Nat.zero_le _⟩) hP hD hS hA [0, 1, 2, 3, 4, 5, 6, 7] [] [0, 1, 2, 3, 4, 5, 6, 7] rfl (wr := []) rfl rfl rfl rfl rfl (fun H locs hP hD hS => ?_)
    refine lv_istore_n (lv' := [(2, .int q3), (0, .ref (h0 0)), (1, .int a1)]) hx hb dX13_matchSize_22 rfl hl (by decide) rfl (fun ls hl => ?_)
    refine lv_iload_n hx hb dX13_matchSize_23 rfl (lv_at hl 0 rfl) ?_
    obtain ⟨J43, eJ43, h⟩ := x_join h
    have hJ_J43 : ∀ (t0_4 : Int32) (s0_4 : MS) (H : Heap) (locs : List Loc), va_P D vwCl (MW cA h0 s0_4) H → va_D A (MW cA h0 s0_4) → va_S A s.heap H locs → ∀ ls : Array Slot, lv_has ls 3 [] → J43 t0_4 s0_4 = some q → W p l e rm s m ([.ref (h0 0), .int a1] : List Value).toArray below meth c H locs 0 0 (MQ below (xQ D cA A (MW cA h0 q.2) (some (.int q.1))) ([.ref (h0 0), .int a1] : List Value).toArray s 0 0 A) (F0 m 43 ls [.int t0_4]) := by
      clear h hP hD hS hl
      intro t0_4 s0_4 H locs hP hD hS ls hl h
      rw [eJ43] at h
      have h := Option.some.inj h
      subst h
      exact xIret hx hb hr hlocks hP hK hD hS dX13_matchSize_43
    refine lv_if_ne (tgt := 35) hx hb dX13_matchSize_24 (by decide) (fun c5 => ?_) (fun c5 => ?_)
    · have h := x_f h c5
      refine lv_aload_n hx hb dX13_matchSize_35 rfl (lv_at hl 1 rfl) ?_
      refine lv_iload_n hx hb dX13_matchSize_36 rfl (lv_at hl 0 rfl) ?_
      obtain ⟨q6, c6, h⟩ := x_call h
      refine xCall (w2 := MW cA h0 s0) (xRunS (n := 1) (As := [.int q3]) (rest := [.ref (h0 0)]) ⟨hx, hb, hml, hown, hts⟩ (kX13_members l D cA  _ N q3 q6 c6) qco_X13_members qml_X13_136 qst_X13_members qini_X13 (by decide +kernel) (by rw [← erm]; rfl) hK hP hD [] rfl rfl rfl rfl hl.1 rfl (lv_room (Nat.le_of_ble_eq_true rfl)) dX13_matchSize_37 ⟨Nat.zero_le _, Nat.zero_le _⟩) hP hD hS hA [] [0, 1, 2, 3, 4, 5, 6, 7] [0, 1, 2, 3, 4, 5, 6, 7] rfl (wr := [(h0 0, .inr (12, [.ref (h0 1), .ref (h0 2), .ref (h0 3), .int (s0.2.2.2.1), .ref (h0 4), .int (s0.2.2.2.2.2.1), .ref (h0 5), .int (s0.2.2.2.2.2.2.2.1), .int (s0.2.2.2.2.2.2.2.2.1), .int (s0.2.2.2.2.2.2.2.2.2.1), .ref (h0 6), .int (s0.2.2.2.2.2.2.2.2.2.2.2.1), .int (s0.2.2.2.2.2.2.2.2.2.2.2.2.1), .int (s0.2.2.2.2.2.2.2.2.2.2.2.2.2.1), .int (s0.2.2.2.2.2.2.2.2.2.2.2.2.2.2.1), .ref (h0 7)])), (h0 1, .inl (cA 0, 229, .inl (s0.1))), (h0 2, .inl (cA 0, 229, .inl (s0.2.1))), (h0 3, .inl (cA 0, 1832, .inl (s0.2.2.1))), (h0 4, .inl (cA 0, 229, .inl (s0.2.2.2.2.1))), (h0 5, .inl (cA 1, 60, .inl (s0.2.2.2.2.2.2.1))), (h0 6, .inl (cA 1, 60, .inl (s0.2.2.2.2.2.2.2.2.2.2.1))), (h0 7, .inl (cA 0, 240, .inl (s0.2.2.2.2.2.2.2.2.2.2.2.2.2.2.2)))]) rfl rfl rfl rfl rfl (fun H locs hP hD hS => ?_)
      obtain ⟨q7, c7, h⟩ := x_call h
      refine xCall (w2 := MW cA h0 q7.2) (xRunV (n := 1) (As := [.int q6]) (rest := []) ⟨hx, hb, hml, hown, hts⟩ (kX13_done l D cA h0 _ N q6 s0 q7 c7) qco_X13_done qml_X13_60 qin_X13_done qse_X13_done qini_X13 (by decide +kernel) (by rw [← erm]; rfl) hK hP hD [0, 1, 2, 3, 4, 5, 6, 7] rfl rfl (q0 := 0) rfl rfl rfl rfl rfl hl.1 rfl (lv_room (Nat.le_of_ble_eq_true rfl)) dX13_matchSize_40 ⟨Nat.zero_le _, Nat.zero_le _⟩) hP hD hS hA [0, 1, 2, 3, 4, 5, 6, 7] [] [0, 1, 2, 3, 4, 5, 6, 7] rfl (wr := []) rfl rfl rfl rfl rfl (fun H locs hP hD hS => ?_)
      exact hJ_J43 q7.1 q7.2 _ _ hP hD hS _ (lv_sub hl [] rfl) h
    · have h := x_t h c5
      refine lv_aload_n hx hb dX13_matchSize_27 rfl (lv_at hl 1 rfl) ?_
      refine lv_iconst (v := 2) hx hb dX13_matchSize_28 (by decide) ?_
      obtain ⟨q8, c8, h⟩ := x_call h
      refine xCall (w2 := MW cA h0 q8.2) (xRunV (n := 1) (As := [.int 2]) (rest := []) ⟨hx, hb, hml, hown, hts⟩ (kX13_fails l D cA h0 _ N 2 s0 q8 c8) qco_X13_fails qml_X13_57 qin_X13_fails qse_X13_fails qini_X13 (by decide +kernel) (by rw [← erm]; rfl) hK hP hD [0, 1, 2, 3, 4, 5, 6, 7] rfl rfl (q0 := 0) rfl rfl rfl rfl rfl hl.1 rfl (lv_room (Nat.le_of_ble_eq_true rfl)) dX13_matchSize_29 ⟨Nat.zero_le _, Nat.zero_le _⟩) hP hD hS hA [0, 1, 2, 3, 4, 5, 6, 7] [] [0, 1, 2, 3, 4, 5, 6, 7] rfl (wr := []) rfl rfl rfl rfl rfl (fun H locs hP hD hS => ?_)
      refine lv_goto (tgt := 43) hx hb dX13_matchSize_32 (by decide) ?_
      exact hJ_J43 q8.1 q8.2 _ _ hP hD hS _ (lv_sub hl [] rfl) h
  · have h := x_t h c2
    refine lv_aload_n hx hb dX13_matchSize_11 rfl (lv_at hl 0 rfl) ?_
    refine lv_iconst (v := 1) hx hb dX13_matchSize_12 (by decide) ?_
    obtain ⟨q9, c9, h⟩ := x_call h
    refine xCall (w2 := MW cA h0 q9.2) (xRunV (n := 1) (As := [.int 1]) (rest := []) ⟨hx, hb, hml, hown, hts⟩ (kX13_fails l D cA h0 _ N 1 s0 q9 c9) qco_X13_fails qml_X13_57 qin_X13_fails qse_X13_fails qini_X13 (by decide +kernel) (by rw [← erm]; rfl) hK hP hD [0, 1, 2, 3, 4, 5, 6, 7] rfl rfl (q0 := 0) rfl rfl rfl rfl rfl hl.1 rfl (lv_room (Nat.le_of_ble_eq_true rfl)) dX13_matchSize_13 ⟨Nat.zero_le _, Nat.zero_le _⟩) hP hD hS hA [0, 1, 2, 3, 4, 5, 6, 7] [] [0, 1, 2, 3, 4, 5, 6, 7] rfl (wr := []) rfl rfl rfl rfl rfl (fun H locs hP hD hS => ?_)
    have h := Option.some.inj h
    subst h
    exact xIret hx hb hr hlocks hP hK hD hS dX13_matchSize_16
def fX13_isInMatch (N : Nat) (a1 : Int32) (a2 : Int32) (s0 : MS) : Option (Int32 × MS) :=
  xcall (fX13_billPlace N a1 s0) fun q1 =>
  xjoin (fun (t0_2 : Int32) (v2_2 : Int32) (v3_2 : Int32) (s0_2 : MS) =>
      xjoin (fun (t0_3 : Int32) (v3_3 : Int32) (v4_3 : Int32) (s0_3 : MS) =>
          xjoin (fun (t0_4 : Int32) (s0_4 : MS) =>
              xnz (xnar .boolean t0_4) <|
              some (t0_4, s0_4)
            ) fun J93 =>
          xjoin (fun (s0_6 : MS) =>
              J93 0 s0_6
            ) fun J92 =>
          if t0_3 = 0 then
            if ((v4_3 >>> (v3_3 &&& 31)) &&& 1) = 1 then
              J93 1 ((Ms12 s0_3 t0_3))
            else
              J92 ((Ms12 s0_3 t0_3))
          else
            J92 ((Ms12 s0_3 t0_3))
        ) fun J68 =>
      if v3_2 = (-1) then
        J68 1 v3_2 t0_2 s0_2
      else
        xcall (fX13_in N v2_2 1 999) fun q10 =>
        if q10 = 0 then
          J68 2 v3_2 t0_2 s0_2
        else
          if t0_2 = 0 then
            J68 3 v3_2 t0_2 s0_2
          else
            J68 0 v3_2 t0_2 s0_2
    ) fun J31 =>
  xjoin (fun (v2_13 : Int32) (v3_13 : Int32) (s0_13 : MS) =>
      J31 0 v2_13 v3_13 s0_13
    ) fun J30 =>
  if q1 = (-1) then
    J30 a2 q1 s0
  else
    xcall (fX13_in N a2 1 999) fun q15 =>
    if q15 = 0 then
      J30 a2 q1 s0
    else
      xcall (fX13_chosen N a2 s0) fun q17 =>
      J31 q17 a2 q1 s0
set_option maxRecDepth 100000 in
set_option maxHeartbeats 4000000 in
theorem kX13_isInMatch (l : Launch) (D : va_G) (cA : Nat → ClassId) (h0 : Nat → Nat) (sz N : Nat) (a1 : Int32) (a2 : Int32) (s0 : MS) (q : Int32 × MS) (h : fX13_isInMatch N a1 a2 s0 = some q) : xM l yX13_isInMatch cX13_isInMatch 5 (some .boolean) ({ frames := 3, cells := 0, slots := 0, locals := 68 }) D cA (MW cA h0 s0) sz [.ref (h0 0), .int a1, .int a2] (some (.int q.1)) (MW cA h0 q.2) := by
  generalize erm : ({ frames := 3, cells := 0, slots := 0, locals := 68 } : Room) = rm
  refine xMet (by decide) (Nat.le_of_ble_eq_true rfl) ?_
  intro p e s m below meth c hx hb hr hlocks hml hts hown hin hK hP A eA hD hS hA hsz ls hl
  have hl : lv_has ls 5 [(0, .ref (h0 0)), (1, .int a1), (2, .int a2)] := hl
  clear eA
  rw [fX13_isInMatch] at h
  refine lv_aload_n hx hb dX13_isInMatch_0 rfl (lv_at hl 0 rfl) ?_
  refine lv_iload_n hx hb dX13_isInMatch_1 rfl (lv_at hl 1 rfl) ?_
  obtain ⟨q1, c1, h⟩ := x_call h
  refine xCall (w2 := MW cA h0 s0) (xRunV (n := 1) (As := [.int a1]) (rest := []) ⟨hx, hb, hml, hown, hts⟩ (kX13_billPlace l D cA h0 _ N a1 s0 q1 c1) qco_X13_billPlace qml_X13_187 qin_X13_billPlace qse_X13_billPlace qini_X13 (by decide +kernel) (by rw [← erm]; rfl) hK hP hD [0, 1, 2, 3, 4, 5, 6, 7] rfl rfl (q0 := 0) rfl rfl rfl rfl rfl hl.1 rfl (lv_room (Nat.le_of_ble_eq_true rfl)) dX13_isInMatch_2 ⟨Nat.zero_le _, Nat.zero_le _⟩) hP hD hS hA [0, 1, 2, 3, 4, 5, 6, 7] [] [0, 1, 2, 3, 4, 5, 6, 7] rfl (wr := []) rfl rfl rfl rfl rfl (fun H locs hP hD hS => ?_)
  refine lv_istore_n (lv' := [(3, .int q1), (0, .ref (h0 0)), (1, .int a1), (2, .int a2)]) hx hb dX13_isInMatch_5 rfl hl (by decide) rfl (fun ls hl => ?_)
  refine lv_iload_n hx hb dX13_isInMatch_6 rfl (lv_at hl 0 rfl) ?_
  refine lv_iconst (v := (-1)) hx hb dX13_isInMatch_7 (by decide) ?_
  obtain ⟨J31, eJ31, h⟩ := x_join h
  have hJ_J31 : ∀ (t0_2 : Int32) (v2_2 : Int32) (v3_2 : Int32) (s0_2 : MS) (H : Heap) (locs : List Loc), va_P D vwCl (MW cA h0 s0_2) H → va_D A (MW cA h0 s0_2) → va_S A s.heap H locs → ∀ ls : Array Slot, lv_has ls 5 [(0, .ref (h0 0)), (2, .int v2_2), (3, .int v3_2)] → J31 t0_2 v2_2 v3_2 s0_2 = some q → W p l e rm s m ([.ref (h0 0), .int a1, .int a2] : List Value).toArray below meth c H locs 0 0 (MQ below (xQ D cA A (MW cA h0 q.2) (some (.int q.1))) ([.ref (h0 0), .int a1, .int a2] : List Value).toArray s 0 0 A) (F0 m 31 ls [.int t0_2]) := by
    clear h hP hD hS hl
    intro t0_2 v2_2 v3_2 s0_2 H locs hP hD hS ls hl h
    rw [eJ31] at h
    refine lv_istore (lv' := [(4, .int t0_2), (0, .ref (h0 0)), (2, .int v2_2), (3, .int v3_2)]) hx hb dX13_isInMatch_31 hl (by decide) rfl (fun ls hl => ?_)
    refine lv_aload_n hx hb dX13_isInMatch_33 rfl (lv_at hl 1 rfl) ?_
    refine lv_iload_n hx hb dX13_isInMatch_34 rfl (lv_at hl 3 rfl) ?_
    refine lv_iconst (v := (-1)) hx hb dX13_isInMatch_35 (by decide) ?_
    obtain ⟨J68, eJ68, h⟩ := x_join h
    have hJ_J68 : ∀ (t0_3 : Int32) (v3_3 : Int32) (v4_3 : Int32) (s0_3 : MS) (H : Heap) (locs : List Loc), va_P D vwCl (MW cA h0 s0_3) H → va_D A (MW cA h0 s0_3) → va_S A s.heap H locs → ∀ ls : Array Slot, lv_has ls 5 [(0, .ref (h0 0)), (3, .int v3_3), (4, .int v4_3)] → J68 t0_3 v3_3 v4_3 s0_3 = some q → W p l e rm s m ([.ref (h0 0), .int a1, .int a2] : List Value).toArray below meth c H locs 0 0 (MQ below (xQ D cA A (MW cA h0 q.2) (some (.int q.1))) ([.ref (h0 0), .int a1, .int a2] : List Value).toArray s 0 0 A) (F0 m 68 ls [.int t0_3, .ref (h0 0)]) := by
      clear h hP hD hS hl
      intro t0_3 v3_3 v4_3 s0_3 H locs hP hD hS ls hl h
      rw [eJ68] at h
      refine va_put (D := D) (ci := 12) (v := .int t0_3) (ty := .int) (C := RX13) (T := TX13) (N := 16) hx hb hts iX13 tyX13 tyX13_ok nmX13 hown hK hP hD hS 0 rfl rfl 12 (by decide) (hts _ qfl_X13_39) (fun _ h9 => h9) rfl (by decide +kernel) rfl rfl (Nat.le_of_ble_eq_true rfl) dX13_isInMatch_68 (fun H locs hP hD hS => ?_)
      have hP : va_P D vwCl (MW cA h0 ((Ms12 s0_3 t0_3))) H := hP
      have hD : va_D A (MW cA h0 ((Ms12 s0_3 t0_3))) := hD
      refine lv_aload_n hx hb dX13_isInMatch_71 rfl (lv_at hl 0 rfl) ?_
      refine va_get (D := D) (ci := 12) (v := .int t0_3) (C := RX13) (T := TX13) (N := 16) hx hb hts iX13 hown hK hP 0 rfl rfl 12 (by decide) (hts _ qfl_X13_39) (fun _ h9 => h9) rfl dX13_isInMatch_72 ?_
      obtain ⟨J93, eJ93, h⟩ := x_join h
      have hJ_J93 : ∀ (t0_4 : Int32) (s0_4 : MS) (H : Heap) (locs : List Loc), va_P D vwCl (MW cA h0 s0_4) H → va_D A (MW cA h0 s0_4) → va_S A s.heap H locs → ∀ ls : Array Slot, lv_has ls 5 [] → J93 t0_4 s0_4 = some q → W p l e rm s m ([.ref (h0 0), .int a1, .int a2] : List Value).toArray below meth c H locs 0 0 (MQ below (xQ D cA A (MW cA h0 q.2) (some (.int q.1))) ([.ref (h0 0), .int a1, .int a2] : List Value).toArray s 0 0 A) (F0 m 93 ls [.int t0_4]) := by
        clear h hP hD hS hl
        intro t0_4 s0_4 H locs hP hD hS ls hl h
        rw [eJ93] at h
        obtain ⟨z5, h⟩ := x_nz h
        have h := Option.some.inj h
        subst h
        exact xZret hx hb hr hlocks (xnar_n z5) hP hK hD hS dX13_isInMatch_93
      obtain ⟨J92, eJ92, h⟩ := x_join h
      have hJ_J92 : ∀ (s0_6 : MS) (H : Heap) (locs : List Loc), va_P D vwCl (MW cA h0 s0_6) H → va_D A (MW cA h0 s0_6) → va_S A s.heap H locs → ∀ ls : Array Slot, lv_has ls 5 [] → J92 s0_6 = some q → W p l e rm s m ([.ref (h0 0), .int a1, .int a2] : List Value).toArray below meth c H locs 0 0 (MQ below (xQ D cA A (MW cA h0 q.2) (some (.int q.1))) ([.ref (h0 0), .int a1, .int a2] : List Value).toArray s 0 0 A) (F0 m 92 ls []) := by
        clear h hP hD hS hl
        intro s0_6 H locs hP hD hS ls hl h
        rw [eJ92] at h
        refine lv_iconst (v := 0) hx hb dX13_isInMatch_92 (by decide) ?_
        exact hJ_J93 0 s0_6 _ _ hP hD hS _ (lv_sub hl [] rfl) h
      refine lv_if_ne (tgt := 92) hx hb dX13_isInMatch_75 (by decide) (fun c7 => ?_) (fun c7 => ?_)
      · have h := x_f h c7
        exact hJ_J92 ((Ms12 s0_3 t0_3)) _ _ hP hD hS _ (lv_sub hl [] rfl) h
      · have h := x_t h c7
        refine lv_iload hx hb dX13_isInMatch_78 (lv_at hl 2 rfl) ?_
        refine lv_iload_n hx hb dX13_isInMatch_80 rfl (lv_at hl 1 rfl) ?_
        refine lv_ishr hx hb dX13_isInMatch_81 ?_
        refine lv_iconst (v := 1) hx hb dX13_isInMatch_82 (by decide) ?_
        refine lv_iand hx hb dX13_isInMatch_83 ?_
        refine lv_iconst (v := 1) hx hb dX13_isInMatch_84 (by decide) ?_
        refine lv_icmp_ne (tgt := 92) hx hb dX13_isInMatch_85 (by decide) (fun c8 => ?_) (fun c8 => ?_)
        · have h := x_f h c8
          exact hJ_J92 ((Ms12 s0_3 t0_3)) _ _ hP hD hS _ (lv_sub hl [] rfl) h
        · have h := x_t h c8
          refine lv_iconst (v := 1) hx hb dX13_isInMatch_88 (by decide) ?_
          refine lv_goto (tgt := 93) hx hb dX13_isInMatch_89 (by decide) ?_
          exact hJ_J93 1 ((Ms12 s0_3 t0_3)) _ _ hP hD hS _ (lv_sub hl [] rfl) h
    refine lv_icmp_ne (tgt := 43) hx hb dX13_isInMatch_36 (by decide) (fun c9 => ?_) (fun c9 => ?_)
    · have h := x_f h c9
      refine lv_iload_n hx hb dX13_isInMatch_43 rfl (lv_at hl 2 rfl) ?_
      refine lv_iconst (v := 1) hx hb dX13_isInMatch_44 (by decide) ?_
      refine lv_sipush (v := 999) hx hb dX13_isInMatch_45 (by decide) ?_
      obtain ⟨q10, c10, h⟩ := x_call h
      refine xCall (w2 := MW cA h0 s0_2) (xRunS (n := 3) (As := [.int v2_2, .int 1, .int 999]) (rest := [.ref (h0 0)]) ⟨hx, hb, hml, hown, hts⟩ (kX13_in l D cA  _ N v2_2 1 999 q10 c10) qco_X13_in qml_X13_49 qst_X13_in qini_X13 (by decide +kernel) (by rw [← erm]; rfl) hK hP hD [] rfl rfl rfl rfl hl.1 rfl (lv_room (Nat.le_of_ble_eq_true rfl)) dX13_isInMatch_48 ⟨Nat.zero_le _, Nat.zero_le _⟩) hP hD hS hA [] [0, 1, 2, 3, 4, 5, 6, 7] [0, 1, 2, 3, 4, 5, 6, 7] rfl (wr := [(h0 0, .inr (12, [.ref (h0 1), .ref (h0 2), .ref (h0 3), .int (s0_2.2.2.2.1), .ref (h0 4), .int (s0_2.2.2.2.2.2.1), .ref (h0 5), .int (s0_2.2.2.2.2.2.2.2.1), .int (s0_2.2.2.2.2.2.2.2.2.1), .int (s0_2.2.2.2.2.2.2.2.2.2.1), .ref (h0 6), .int (s0_2.2.2.2.2.2.2.2.2.2.2.2.1), .int (s0_2.2.2.2.2.2.2.2.2.2.2.2.2.1), .int (s0_2.2.2.2.2.2.2.2.2.2.2.2.2.2.1), .int (s0_2.2.2.2.2.2.2.2.2.2.2.2.2.2.2.1), .ref (h0 7)])), (h0 1, .inl (cA 0, 229, .inl (s0_2.1))), (h0 2, .inl (cA 0, 229, .inl (s0_2.2.1))), (h0 3, .inl (cA 0, 1832, .inl (s0_2.2.2.1))), (h0 4, .inl (cA 0, 229, .inl (s0_2.2.2.2.2.1))), (h0 5, .inl (cA 1, 60, .inl (s0_2.2.2.2.2.2.2.1))), (h0 6, .inl (cA 1, 60, .inl (s0_2.2.2.2.2.2.2.2.2.2.2.1))), (h0 7, .inl (cA 0, 240, .inl (s0_2.2.2.2.2.2.2.2.2.2.2.2.2.2.2.2)))]) rfl rfl rfl rfl rfl (fun H locs hP hD hS => ?_)
      refine lv_if_ne (tgt := 58) hx hb dX13_isInMatch_51 (by decide) (fun c11 => ?_) (fun c11 => ?_)
      · have h := x_f h c11
        refine lv_iload hx hb dX13_isInMatch_58 (lv_at hl 0 rfl) ?_
        refine lv_if_ne (tgt := 67) hx hb dX13_isInMatch_60 (by decide) (fun c12 => ?_) (fun c12 => ?_)
        · have h := x_f h c12
          refine lv_iconst (v := 0) hx hb dX13_isInMatch_67 (by decide) ?_
          exact hJ_J68 0 v3_2 t0_2 s0_2 _ _ hP hD hS _ (lv_sub hl [1, 3, 0] rfl) h
        · have h := x_t h c12
          refine lv_iconst (v := 3) hx hb dX13_isInMatch_63 (by decide) ?_
          refine lv_goto (tgt := 68) hx hb dX13_isInMatch_64 (by decide) ?_
          exact hJ_J68 3 v3_2 t0_2 s0_2 _ _ hP hD hS _ (lv_sub hl [1, 3, 0] rfl) h
      · have h := x_t h c11
        refine lv_iconst (v := 2) hx hb dX13_isInMatch_54 (by decide) ?_
        refine lv_goto (tgt := 68) hx hb dX13_isInMatch_55 (by decide) ?_
        exact hJ_J68 2 v3_2 t0_2 s0_2 _ _ hP hD hS _ (lv_sub hl [1, 3, 0] rfl) h
    · have h := x_t h c9
      refine lv_iconst (v := 1) hx hb dX13_isInMatch_39 (by decide) ?_
      refine lv_goto (tgt := 68) hx hb dX13_isInMatch_40 (by decide) ?_
      exact hJ_J68 1 v3_2 t0_2 s0_2 _ _ hP hD hS _ (lv_sub hl [1, 3, 0] rfl) h
  obtain ⟨J30, eJ30, h⟩ := x_join h
  have hJ_J30 : ∀ (v2_13 : Int32) (v3_13 : Int32) (s0_13 : MS) (H : Heap) (locs : List Loc), va_P D vwCl (MW cA h0 s0_13) H → va_D A (MW cA h0 s0_13) → va_S A s.heap H locs → ∀ ls : Array Slot, lv_has ls 5 [(0, .ref (h0 0)), (2, .int v2_13), (3, .int v3_13)] → J30 v2_13 v3_13 s0_13 = some q → W p l e rm s m ([.ref (h0 0), .int a1, .int a2] : List Value).toArray below meth c H locs 0 0 (MQ below (xQ D cA A (MW cA h0 q.2) (some (.int q.1))) ([.ref (h0 0), .int a1, .int a2] : List Value).toArray s 0 0 A) (F0 m 30 ls []) := by
    clear h hP hD hS hl
    intro v2_13 v3_13 s0_13 H locs hP hD hS ls hl h
    rw [eJ30] at h
    refine lv_iconst (v := 0) hx hb dX13_isInMatch_30 (by decide) ?_
    exact hJ_J31 0 v2_13 v3_13 s0_13 _ _ hP hD hS _ (lv_sub hl [0, 1, 2] rfl) h
  refine lv_icmp_eq (tgt := 30) hx hb dX13_isInMatch_8 (by decide) (fun c14 => ?_) (fun c14 => ?_)
  · have h := x_t h c14
    exact hJ_J30 a2 q1 s0 _ _ hP hD hS _ (lv_sub hl [1, 3, 0] rfl) h
  · have h := x_f h c14
    refine lv_iload_n hx hb dX13_isInMatch_11 rfl (lv_at hl 3 rfl) ?_
    refine lv_iconst (v := 1) hx hb dX13_isInMatch_12 (by decide) ?_
    refine lv_sipush (v := 999) hx hb dX13_isInMatch_13 (by decide) ?_
    obtain ⟨q15, c15, h⟩ := x_call h
    refine xCall (w2 := MW cA h0 s0) (xRunS (n := 3) (As := [.int a2, .int 1, .int 999]) (rest := []) ⟨hx, hb, hml, hown, hts⟩ (kX13_in l D cA  _ N a2 1 999 q15 c15) qco_X13_in qml_X13_49 qst_X13_in qini_X13 (by decide +kernel) (by rw [← erm]; rfl) hK hP hD [] rfl rfl rfl rfl hl.1 rfl (lv_room (Nat.le_of_ble_eq_true rfl)) dX13_isInMatch_16 ⟨Nat.zero_le _, Nat.zero_le _⟩) hP hD hS hA [] [0, 1, 2, 3, 4, 5, 6, 7] [0, 1, 2, 3, 4, 5, 6, 7] rfl (wr := [(h0 0, .inr (12, [.ref (h0 1), .ref (h0 2), .ref (h0 3), .int (s0.2.2.2.1), .ref (h0 4), .int (s0.2.2.2.2.2.1), .ref (h0 5), .int (s0.2.2.2.2.2.2.2.1), .int (s0.2.2.2.2.2.2.2.2.1), .int (s0.2.2.2.2.2.2.2.2.2.1), .ref (h0 6), .int (s0.2.2.2.2.2.2.2.2.2.2.2.1), .int (s0.2.2.2.2.2.2.2.2.2.2.2.2.1), .int (s0.2.2.2.2.2.2.2.2.2.2.2.2.2.1), .int (s0.2.2.2.2.2.2.2.2.2.2.2.2.2.2.1), .ref (h0 7)])), (h0 1, .inl (cA 0, 229, .inl (s0.1))), (h0 2, .inl (cA 0, 229, .inl (s0.2.1))), (h0 3, .inl (cA 0, 1832, .inl (s0.2.2.1))), (h0 4, .inl (cA 0, 229, .inl (s0.2.2.2.2.1))), (h0 5, .inl (cA 1, 60, .inl (s0.2.2.2.2.2.2.1))), (h0 6, .inl (cA 1, 60, .inl (s0.2.2.2.2.2.2.2.2.2.2.1))), (h0 7, .inl (cA 0, 240, .inl (s0.2.2.2.2.2.2.2.2.2.2.2.2.2.2.2)))]) rfl rfl rfl rfl rfl (fun H locs hP hD hS => ?_)
    refine lv_if_eq (tgt := 30) hx hb dX13_isInMatch_19 (by decide) (fun c16 => ?_) (fun c16 => ?_)
    · have h := x_t h c16
      exact hJ_J30 a2 q1 s0 _ _ hP hD hS _ (lv_sub hl [1, 3, 0] rfl) h
    · have h := x_f h c16
      refine lv_aload_n hx hb dX13_isInMatch_22 rfl (lv_at hl 1 rfl) ?_
      refine lv_iload_n hx hb dX13_isInMatch_23 rfl (lv_at hl 3 rfl) ?_
      obtain ⟨q17, c17, h⟩ := x_call h
      refine xCall (w2 := MW cA h0 s0) (xRunV (n := 1) (As := [.int a2]) (rest := []) ⟨hx, hb, hml, hown, hts⟩ (kX13_chosen l D cA h0 _ N a2 s0 q17 c17) qco_X13_chosen qml_X13_149 qin_X13_chosen qse_X13_chosen qini_X13 (by decide +kernel) (by rw [← erm]; rfl) hK hP hD [0, 1, 2, 3, 4, 5, 6, 7] rfl rfl (q0 := 0) rfl rfl rfl rfl rfl hl.1 rfl (lv_room (Nat.le_of_ble_eq_true rfl)) dX13_isInMatch_24 ⟨Nat.zero_le _, Nat.zero_le _⟩) hP hD hS hA [0, 1, 2, 3, 4, 5, 6, 7] [] [0, 1, 2, 3, 4, 5, 6, 7] rfl (wr := []) rfl rfl rfl rfl rfl (fun H locs hP hD hS => ?_)
      refine lv_goto (tgt := 31) hx hb dX13_isInMatch_27 (by decide) ?_
      exact hJ_J31 q17 a2 q1 s0 _ _ hP hD hS _ (lv_sub hl [1, 3, 0] rfl) h
def fX13_isRicher (N : Nat) (a1 : Int32) (a2 : Int32) (s0 : MS) : Option (Int32) :=
  xcall (fX13_balanceOf N a1 s0) fun q1 =>
  xcall (fX13_balanceOf N a2 s0) fun q2 =>
  xlet (q1 - q2) fun x3 =>
  xjoin (fun (t0_4 : Int32) =>
      xnz (xnar .boolean t0_4) <|
      some t0_4
    ) fun J30 =>
  xjoin (fun (u_6 : Unit) =>
      J30 1
    ) fun J25 =>
  if 0 < x3 then
    J25 ()
  else
    xjoin (fun (u_8 : Unit) =>
        J30 0
      ) fun J29 =>
    if x3 = 0 then
      if a2 ≤ a1 then
        J29 ()
      else
        J25 ()
    else
      J29 ()
set_option maxRecDepth 100000 in
set_option maxHeartbeats 4000000 in
theorem kX13_isRicher (l : Launch) (D : va_G) (cA : Nat → ClassId) (h0 : Nat → Nat) (sz N : Nat) (a1 : Int32) (a2 : Int32) (s0 : MS) (q : Int32) (h : fX13_isRicher N a1 a2 s0 = some q) : xM l yX13_isRicher cX13_isRicher 4 (some .boolean) ({ frames := 1, cells := 0, slots := 0, locals := 22 }) D cA (MW cA h0 s0) sz [.ref (h0 0), .int a1, .int a2] (some (.int q)) (MW cA h0 s0) := by
  generalize erm : ({ frames := 1, cells := 0, slots := 0, locals := 22 } : Room) = rm
  refine xMet (by decide) (Nat.le_of_ble_eq_true rfl) ?_
  intro p e s m below meth c hx hb hr hlocks hml hts hown hin hK hP A eA hD hS hA hsz ls hl
  have hl : lv_has ls 4 [(0, .ref (h0 0)), (1, .int a1), (2, .int a2)] := hl
  clear eA
  rw [fX13_isRicher] at h
  refine lv_aload_n hx hb dX13_isRicher_0 rfl (lv_at hl 0 rfl) ?_
  refine lv_iload_n hx hb dX13_isRicher_1 rfl (lv_at hl 1 rfl) ?_
  obtain ⟨q1, c1, h⟩ := x_call h
  refine xCall (w2 := MW cA h0 s0) (xRunV (n := 1) (As := [.int a1]) (rest := []) ⟨hx, hb, hml, hown, hts⟩ (kX13_balanceOf l D cA h0 _ N a1 s0 q1 c1) qco_X13_balanceOf qml_X13_53 qin_X13_balanceOf qse_X13_balanceOf qini_X13 (by decide +kernel) (by rw [← erm]; rfl) hK hP hD [0, 1, 2, 3, 4, 5, 6, 7] rfl rfl (q0 := 0) rfl rfl rfl rfl rfl hl.1 rfl (lv_room (Nat.le_of_ble_eq_true rfl)) dX13_isRicher_2 ⟨Nat.zero_le _, Nat.zero_le _⟩) hP hD hS hA [0, 1, 2, 3, 4, 5, 6, 7] [] [0, 1, 2, 3, 4, 5, 6, 7] rfl (wr := []) rfl rfl rfl rfl rfl (fun H locs hP hD hS => ?_)
  refine lv_aload_n hx hb dX13_isRicher_5 rfl (lv_at hl 0 rfl) ?_
  refine lv_iload_n hx hb dX13_isRicher_6 rfl (lv_at hl 2 rfl) ?_
  obtain ⟨q2, c2, h⟩ := x_call h
  refine xCall (w2 := MW cA h0 s0) (xRunV (n := 1) (As := [.int a2]) (rest := [.int q1]) ⟨hx, hb, hml, hown, hts⟩ (kX13_balanceOf l D cA h0 _ N a2 s0 q2 c2) qco_X13_balanceOf qml_X13_53 qin_X13_balanceOf qse_X13_balanceOf qini_X13 (by decide +kernel) (by rw [← erm]; rfl) hK hP hD [0, 1, 2, 3, 4, 5, 6, 7] rfl rfl (q0 := 0) rfl rfl rfl rfl rfl hl.1 rfl (lv_room (Nat.le_of_ble_eq_true rfl)) dX13_isRicher_7 ⟨Nat.zero_le _, Nat.zero_le _⟩) hP hD hS hA [0, 1, 2, 3, 4, 5, 6, 7] [] [0, 1, 2, 3, 4, 5, 6, 7] rfl (wr := []) rfl rfl rfl rfl rfl (fun H locs hP hD hS => ?_)
  refine lv_isub hx hb dX13_isRicher_10 ?_
  refine lv_topi (fun x3 ex3 => ?_)
  have h := x_let h ex3
  refine lv_istore_n (lv' := [(3, .int x3), (0, .ref (h0 0)), (1, .int a1), (2, .int a2)]) hx hb dX13_isRicher_11 rfl hl (by decide) rfl (fun ls hl => ?_)
  refine lv_iload_n hx hb dX13_isRicher_12 rfl (lv_at hl 0 rfl) ?_
  obtain ⟨J30, eJ30, h⟩ := x_join h
  have hJ_J30 : ∀ (t0_4 : Int32) (H : Heap) (locs : List Loc), va_P D vwCl (MW cA h0 s0) H → va_D A (MW cA h0 s0) → va_S A s.heap H locs → ∀ ls : Array Slot, lv_has ls 4 [] → J30 t0_4 = some q → W p l e rm s m ([.ref (h0 0), .int a1, .int a2] : List Value).toArray below meth c H locs 0 0 (MQ below (xQ D cA A (MW cA h0 s0) (some (.int q))) ([.ref (h0 0), .int a1, .int a2] : List Value).toArray s 0 0 A) (F0 m 30 ls [.int t0_4]) := by
    clear h hP hD hS hl
    intro t0_4 H locs hP hD hS ls hl h
    rw [eJ30] at h
    obtain ⟨z5, h⟩ := x_nz h
    have h := Option.some.inj h
    subst h
    exact xZret hx hb hr hlocks (xnar_n z5) hP hK hD hS dX13_isRicher_30
  obtain ⟨J25, eJ25, h⟩ := x_join h
  have hJ_J25 : ∀ (u_6 : Unit) (H : Heap) (locs : List Loc), va_P D vwCl (MW cA h0 s0) H → va_D A (MW cA h0 s0) → va_S A s.heap H locs → ∀ ls : Array Slot, lv_has ls 4 [] → J25 u_6 = some q → W p l e rm s m ([.ref (h0 0), .int a1, .int a2] : List Value).toArray below meth c H locs 0 0 (MQ below (xQ D cA A (MW cA h0 s0) (some (.int q))) ([.ref (h0 0), .int a1, .int a2] : List Value).toArray s 0 0 A) (F0 m 25 ls []) := by
    clear h hP hD hS hl
    intro u_6 H locs hP hD hS ls hl h
    rw [eJ25] at h
    refine lv_iconst (v := 1) hx hb dX13_isRicher_25 (by decide) ?_
    refine lv_goto (tgt := 30) hx hb dX13_isRicher_26 (by decide) ?_
    exact hJ_J30 1 _ _ hP hD hS _ (lv_sub hl [] rfl) h
  refine lv_if_gt (tgt := 25) hx hb dX13_isRicher_13 (by decide) (fun c7 => ?_) (fun c7 => ?_)
  · have h := x_t h c7
    exact hJ_J25 () _ _ hP hD hS _ (lv_sub hl [] rfl) h
  · have h := x_f h c7
    refine lv_iload_n hx hb dX13_isRicher_16 rfl (lv_at hl 0 rfl) ?_
    obtain ⟨J29, eJ29, h⟩ := x_join h
    have hJ_J29 : ∀ (u_8 : Unit) (H : Heap) (locs : List Loc), va_P D vwCl (MW cA h0 s0) H → va_D A (MW cA h0 s0) → va_S A s.heap H locs → ∀ ls : Array Slot, lv_has ls 4 [] → J29 u_8 = some q → W p l e rm s m ([.ref (h0 0), .int a1, .int a2] : List Value).toArray below meth c H locs 0 0 (MQ below (xQ D cA A (MW cA h0 s0) (some (.int q))) ([.ref (h0 0), .int a1, .int a2] : List Value).toArray s 0 0 A) (F0 m 29 ls []) := by
      clear h hP hD hS hl
      intro u_8 H locs hP hD hS ls hl h
      rw [eJ29] at h
      refine lv_iconst (v := 0) hx hb dX13_isRicher_29 (by decide) ?_
      exact hJ_J30 0 _ _ hP hD hS _ (lv_sub hl [] rfl) h
    refine lv_if_ne (tgt := 29) hx hb dX13_isRicher_17 (by decide) (fun c9 => ?_) (fun c9 => ?_)
    · have h := x_f h c9
      exact hJ_J29 () _ _ hP hD hS _ (lv_sub hl [] rfl) h
    · have h := x_t h c9
      refine lv_iload_n hx hb dX13_isRicher_20 rfl (lv_at hl 2 rfl) ?_
      refine lv_iload_n hx hb dX13_isRicher_21 rfl (lv_at hl 3 rfl) ?_
      refine lv_icmp_ge (tgt := 29) hx hb dX13_isRicher_22 (by decide) (fun c10 => ?_) (fun c10 => ?_)
      · have h := x_t h c10
        exact hJ_J29 () _ _ hP hD hS _ (lv_sub hl [] rfl) h
      · have h := x_f h c10
        exact hJ_J25 () _ _ hP hD hS _ (lv_sub hl [] rfl) h
def fX13_accountByBalance_L17 (N : Nat) (K52 : Int32 → Int32 → Int32 → MS → Option (Int32 × MS)) : Nat → Int32 → Int32 → Int32 → Int32 → MS → Option (Int32 × MS)
  | 0, _, _, _, _, _ => none
  | n + 1, v1_9, v2_9, v3_9, v4_9, s0_9 =>
    if (s0_9.1 1) ≤ v4_9 then
      K52 v1_9 v2_9 v3_9 s0_9
    else
      xcall (fX13_isRicher N v4_9 v2_9 s0_9) fun q11 =>
      xjoin (fun (t0_12 : Int32) (t1_12 : Int32) (v1_12 : Int32) (v2_12 : Int32) (v4_12 : Int32) (s0_12 : MS) =>
          xlet (t1_12 + t0_12) fun x13 =>
          xlet (v4_12 + (1)) fun x14 =>
          fX13_accountByBalance_L17 N K52 n v1_12 v2_12 x13 x14 s0_12
        ) fun J44 =>
      if q11 = 0 then
        J44 0 v3_9 v1_9 v2_9 v4_9 s0_9
      else
        J44 1 v3_9 v1_9 v2_9 v4_9 s0_9
def fX13_accountByBalance_L2 (N : Nat) (K69 : MS → Option (Int32 × MS)) : Nat → Int32 → Int32 → MS → Option (Int32 × MS)
  | 0, _, _, _ => none
  | n + 1, v1_3, v2_3, s0_3 =>
    if (s0_3.1 1) ≤ v2_3 then
      K69 s0_3
    else
      xjoin (fun (v1_5 : Int32) (v2_5 : Int32) (v3_5 : Int32) (s0_5 : MS) =>
          if v3_5 = v1_5 then
            xcall (fX13_done N v2_5 s0_5) fun q8 =>
            some (q8.1, q8.2)
          else
            xlet (v2_5 + (1)) fun x7 =>
            fX13_accountByBalance_L2 N K69 n v1_5 x7 s0_5
        ) fun K52 =>
      fX13_accountByBalance_L17 N K52 N v1_3 v2_3 0 0 s0_3
def fX13_accountByBalance (N : Nat) (a1 : Int32) (s0 : MS) : Option (Int32 × MS) :=
  xjoin (fun (s0_1 : MS) =>
      xcall (fX13_fails N 1 s0_1) fun q2 =>
      some (q2.1, q2.2)
    ) fun K69 =>
  fX13_accountByBalance_L2 N K69 N a1 0 s0
set_option maxRecDepth 100000 in
set_option maxHeartbeats 4000000 in
theorem kX13_accountByBalance (l : Launch) (D : va_G) (cA : Nat → ClassId) (h0 : Nat → Nat) (sz N : Nat) (a1 : Int32) (s0 : MS) (q : Int32 × MS) (h : fX13_accountByBalance N a1 s0 = some q) : xM l yX13_accountByBalance cX13_accountByBalance 5 (some .int) ({ frames := 2, cells := 0, slots := 0, locals := 45 }) D cA (MW cA h0 s0) sz [.ref (h0 0), .int a1] (some (.int q.1)) (MW cA h0 q.2) := by
  generalize erm : ({ frames := 2, cells := 0, slots := 0, locals := 45 } : Room) = rm
  refine xMet (by decide) (Nat.le_of_ble_eq_true rfl) ?_
  intro p e s m below meth c hx hb hr hlocks hml hts hown hin hK hP A eA hD hS hA hsz ls hl
  have hl : lv_has ls 5 [(0, .ref (h0 0)), (1, .int a1)] := hl
  clear eA
  rw [fX13_accountByBalance] at h
  refine lv_iconst (v := 0) hx hb dX13_accountByBalance_0 (by decide) ?_
  refine lv_istore_n (lv' := [(2, .int 0), (0, .ref (h0 0)), (1, .int a1)]) hx hb dX13_accountByBalance_1 rfl hl (by decide) rfl (fun ls hl => ?_)
  obtain ⟨K69, eK69, h⟩ := x_join h
  have hJ_K69 : ∀ (s0_1 : MS) (H : Heap) (locs : List Loc), va_P D vwCl (MW cA h0 s0_1) H → va_D A (MW cA h0 s0_1) → va_S A s.heap H locs → ∀ ls : Array Slot, lv_has ls 5 [(0, .ref (h0 0))] → K69 s0_1 = some q → W p l e rm s m ([.ref (h0 0), .int a1] : List Value).toArray below meth c H locs 0 0 (MQ below (xQ D cA A (MW cA h0 q.2) (some (.int q.1))) ([.ref (h0 0), .int a1] : List Value).toArray s 0 0 A) (F0 m 69 ls []) := by
    clear h hP hD hS hl
    intro s0_1 H locs hP hD hS ls hl h
    rw [eK69] at h
    refine lv_aload_n hx hb dX13_accountByBalance_69 rfl (lv_at hl 0 rfl) ?_
    refine lv_iconst (v := 1) hx hb dX13_accountByBalance_70 (by decide) ?_
    obtain ⟨q2, c2, h⟩ := x_call h
    refine xCall (w2 := MW cA h0 q2.2) (xRunV (n := 1) (As := [.int 1]) (rest := []) ⟨hx, hb, hml, hown, hts⟩ (kX13_fails l D cA h0 _ N 1 s0_1 q2 c2) qco_X13_fails qml_X13_57 qin_X13_fails qse_X13_fails qini_X13 (by decide +kernel) (by rw [← erm]; rfl) hK hP hD [0, 1, 2, 3, 4, 5, 6, 7] rfl rfl (q0 := 0) rfl rfl rfl rfl rfl hl.1 rfl (lv_room (Nat.le_of_ble_eq_true rfl)) dX13_accountByBalance_71 ⟨Nat.zero_le _, Nat.zero_le _⟩) hP hD hS hA [0, 1, 2, 3, 4, 5, 6, 7] [] [0, 1, 2, 3, 4, 5, 6, 7] rfl (wr := []) rfl rfl rfl rfl rfl (fun H locs hP hD hS => ?_)
    have h := Option.some.inj h
    subst h
    exact xIret hx hb hr hlocks hP hK hD hS dX13_accountByBalance_74
  have hL2 : ∀ (n : Nat) (v1_3 : Int32) (v2_3 : Int32) (s0_3 : MS) (H : Heap) (locs : List Loc), va_P D vwCl (MW cA h0 s0_3) H → va_D A (MW cA h0 s0_3) → va_S A s.heap H locs → ∀ ls : Array Slot, lv_has ls 5 [(0, .ref (h0 0)), (1, .int v1_3), (2, .int v2_3)] → fX13_accountByBalance_L2 N K69 n v1_3 v2_3 s0_3 = some q → W p l e rm s m ([.ref (h0 0), .int a1] : List Value).toArray below meth c H locs 0 0 (MQ below (xQ D cA A (MW cA h0 q.2) (some (.int q.1))) ([.ref (h0 0), .int a1] : List Value).toArray s 0 0 A) (F0 m 2 ls []) := by
    clear h hP hD hS hl
    intro n
    induction n with
    | zero => intro v1_3 v2_3 s0_3 H locs hP hD hS ls hl h; rw [fX13_accountByBalance_L2] at h; cases h
    | succ n ih =>
      intro v1_3 v2_3 s0_3 H locs hP hD hS ls hl h
      rw [fX13_accountByBalance_L2] at h
      refine lv_iload_n hx hb dX13_accountByBalance_2 rfl (lv_at hl 2 rfl) ?_
      refine lv_aload_n hx hb dX13_accountByBalance_3 rfl (lv_at hl 0 rfl) ?_
      refine va_get (D := D) (ci := 12) (v := .ref (h0 1)) (C := RX13) (T := TX13) (N := 16) hx hb hts iX13 hown hK hP 0 rfl rfl 0 (by decide) (hts _ qfl_X13_7) (fun _ h9 => h9) rfl dX13_accountByBalance_4 ?_
      refine lv_iconst (v := 1) hx hb dX13_accountByBalance_7 (by decide) ?_
      refine xIald hx hb hK hP 1 0 rfl rfl (x_lit (k := 1) (by decide)) dX13_accountByBalance_8 ?_
      refine lv_icmp_ge (tgt := 69) hx hb dX13_accountByBalance_9 (by decide) (fun c4 => ?_) (fun c4 => ?_)
      · have h := x_t h c4
        exact hJ_K69 s0_3 _ _ hP hD hS _ (lv_sub hl [0] rfl) h
      · have h := x_f h c4
        refine lv_iconst (v := 0) hx hb dX13_accountByBalance_12 (by decide) ?_
        refine lv_istore_n (lv' := [(3, .int 0), (0, .ref (h0 0)), (1, .int v1_3), (2, .int v2_3)]) hx hb dX13_accountByBalance_13 rfl hl (by decide) rfl (fun ls hl => ?_)
        refine lv_iconst (v := 0) hx hb dX13_accountByBalance_14 (by decide) ?_
        refine lv_istore (lv' := [(4, .int 0), (3, .int 0), (0, .ref (h0 0)), (1, .int v1_3), (2, .int v2_3)]) hx hb dX13_accountByBalance_15 hl (by decide) rfl (fun ls hl => ?_)
        obtain ⟨K52, eK52, h⟩ := x_join h
        have hJ_K52 : ∀ (v1_5 : Int32) (v2_5 : Int32) (v3_5 : Int32) (s0_5 : MS) (H : Heap) (locs : List Loc), va_P D vwCl (MW cA h0 s0_5) H → va_D A (MW cA h0 s0_5) → va_S A s.heap H locs → ∀ ls : Array Slot, lv_has ls 5 [(0, .ref (h0 0)), (1, .int v1_5), (2, .int v2_5), (3, .int v3_5)] → K52 v1_5 v2_5 v3_5 s0_5 = some q → W p l e rm s m ([.ref (h0 0), .int a1] : List Value).toArray below meth c H locs 0 0 (MQ below (xQ D cA A (MW cA h0 q.2) (some (.int q.1))) ([.ref (h0 0), .int a1] : List Value).toArray s 0 0 A) (F0 m 52 ls []) := by
          clear h hP hD hS hl
          intro v1_5 v2_5 v3_5 s0_5 H locs hP hD hS ls hl h
          rw [eK52] at h
          refine lv_iload_n hx hb dX13_accountByBalance_52 rfl (lv_at hl 3 rfl) ?_
          refine lv_iload_n hx hb dX13_accountByBalance_53 rfl (lv_at hl 1 rfl) ?_
          refine lv_icmp_ne (tgt := 63) hx hb dX13_accountByBalance_54 (by decide) (fun c6 => ?_) (fun c6 => ?_)
          · have h := x_f h c6
            obtain ⟨x7, ex7⟩ : ∃ y : Int32, y = v2_5 + (1) := ⟨_, rfl⟩
            have h := x_let h ex7
            refine lv_iinc (v := x7) (lv' := [(2, .int x7), (0, .ref (h0 0)), (1, .int v1_5), (3, .int v3_5)]) hx hb dX13_accountByBalance_63 hl (k := 2) rfl (by rw [ex7]; rfl) (by decide) rfl (fun ls hl => ?_)
            refine lv_goto (tgt := 2) hx hb dX13_accountByBalance_66 (by decide) ?_
            exact ih v1_5 x7 s0_5 _ _ hP hD hS _ (lv_sub hl [1, 2, 0] rfl) h
          · have h := x_t h c6
            refine lv_aload_n hx hb dX13_accountByBalance_57 rfl (lv_at hl 0 rfl) ?_
            refine lv_iload_n hx hb dX13_accountByBalance_58 rfl (lv_at hl 2 rfl) ?_
            obtain ⟨q8, c8, h⟩ := x_call h
            refine xCall (w2 := MW cA h0 q8.2) (xRunV (n := 1) (As := [.int v2_5]) (rest := []) ⟨hx, hb, hml, hown, hts⟩ (kX13_done l D cA h0 _ N v2_5 s0_5 q8 c8) qco_X13_done qml_X13_60 qin_X13_done qse_X13_done qini_X13 (by decide +kernel) (by rw [← erm]; rfl) hK hP hD [0, 1, 2, 3, 4, 5, 6, 7] rfl rfl (q0 := 0) rfl rfl rfl rfl rfl hl.1 rfl (lv_room (Nat.le_of_ble_eq_true rfl)) dX13_accountByBalance_59 ⟨Nat.zero_le _, Nat.zero_le _⟩) hP hD hS hA [0, 1, 2, 3, 4, 5, 6, 7] [] [0, 1, 2, 3, 4, 5, 6, 7] rfl (wr := []) rfl rfl rfl rfl rfl (fun H locs hP hD hS => ?_)
            have h := Option.some.inj h
            subst h
            exact xIret hx hb hr hlocks hP hK hD hS dX13_accountByBalance_62
        have hL17 : ∀ (n : Nat) (v1_9 : Int32) (v2_9 : Int32) (v3_9 : Int32) (v4_9 : Int32) (s0_9 : MS) (H : Heap) (locs : List Loc), va_P D vwCl (MW cA h0 s0_9) H → va_D A (MW cA h0 s0_9) → va_S A s.heap H locs → ∀ ls : Array Slot, lv_has ls 5 [(0, .ref (h0 0)), (1, .int v1_9), (2, .int v2_9), (3, .int v3_9), (4, .int v4_9)] → fX13_accountByBalance_L17 N K52 n v1_9 v2_9 v3_9 v4_9 s0_9 = some q → W p l e rm s m ([.ref (h0 0), .int a1] : List Value).toArray below meth c H locs 0 0 (MQ below (xQ D cA A (MW cA h0 q.2) (some (.int q.1))) ([.ref (h0 0), .int a1] : List Value).toArray s 0 0 A) (F0 m 17 ls []) := by
          clear h hP hD hS hl
          intro n
          induction n with
          | zero => intro v1_9 v2_9 v3_9 v4_9 s0_9 H locs hP hD hS ls hl h; rw [fX13_accountByBalance_L17] at h; cases h
          | succ n ih =>
            intro v1_9 v2_9 v3_9 v4_9 s0_9 H locs hP hD hS ls hl h
            rw [fX13_accountByBalance_L17] at h
            refine lv_iload hx hb dX13_accountByBalance_17 (lv_at hl 4 rfl) ?_
            refine lv_aload_n hx hb dX13_accountByBalance_19 rfl (lv_at hl 0 rfl) ?_
            refine va_get (D := D) (ci := 12) (v := .ref (h0 1)) (C := RX13) (T := TX13) (N := 16) hx hb hts iX13 hown hK hP 0 rfl rfl 0 (by decide) (hts _ qfl_X13_7) (fun _ h9 => h9) rfl dX13_accountByBalance_20 ?_
            refine lv_iconst (v := 1) hx hb dX13_accountByBalance_23 (by decide) ?_
            refine xIald hx hb hK hP 1 0 rfl rfl (x_lit (k := 1) (by decide)) dX13_accountByBalance_24 ?_
            refine lv_icmp_ge (tgt := 52) hx hb dX13_accountByBalance_25 (by decide) (fun c10 => ?_) (fun c10 => ?_)
            · have h := x_t h c10
              exact hJ_K52 v1_9 v2_9 v3_9 s0_9 _ _ hP hD hS _ (lv_sub hl [0, 1, 2, 3] rfl) h
            · have h := x_f h c10
              refine lv_iload_n hx hb dX13_accountByBalance_28 rfl (lv_at hl 3 rfl) ?_
              refine lv_aload_n hx hb dX13_accountByBalance_29 rfl (lv_at hl 0 rfl) ?_
              refine lv_iload hx hb dX13_accountByBalance_30 (lv_at hl 4 rfl) ?_
              refine lv_iload_n hx hb dX13_accountByBalance_32 rfl (lv_at hl 2 rfl) ?_
              obtain ⟨q11, c11, h⟩ := x_call h
              refine xCall (w2 := MW cA h0 s0_9) (xRunV (n := 2) (As := [.int v4_9, .int v2_9]) (rest := [.int v3_9]) ⟨hx, hb, hml, hown, hts⟩ (kX13_isRicher l D cA h0 _ N v4_9 v2_9 s0_9 q11 c11) qco_X13_isRicher qml_X13_193 qin_X13_isRicher qse_X13_isRicher qini_X13 (by decide +kernel) (by rw [← erm]; rfl) hK hP hD [0, 1, 2, 3, 4, 5, 6, 7] rfl rfl (q0 := 0) rfl rfl rfl rfl rfl hl.1 rfl (lv_room (Nat.le_of_ble_eq_true rfl)) dX13_accountByBalance_33 ⟨Nat.zero_le _, Nat.zero_le _⟩) hP hD hS hA [0, 1, 2, 3, 4, 5, 6, 7] [] [0, 1, 2, 3, 4, 5, 6, 7] rfl (wr := []) rfl rfl rfl rfl rfl (fun H locs hP hD hS => ?_)
              obtain ⟨J44, eJ44, h⟩ := x_join h
              have hJ_J44 : ∀ (t0_12 : Int32) (t1_12 : Int32) (v1_12 : Int32) (v2_12 : Int32) (v4_12 : Int32) (s0_12 : MS) (H : Heap) (locs : List Loc), va_P D vwCl (MW cA h0 s0_12) H → va_D A (MW cA h0 s0_12) → va_S A s.heap H locs → ∀ ls : Array Slot, lv_has ls 5 [(0, .ref (h0 0)), (1, .int v1_12), (2, .int v2_12), (4, .int v4_12)] → J44 t0_12 t1_12 v1_12 v2_12 v4_12 s0_12 = some q → W p l e rm s m ([.ref (h0 0), .int a1] : List Value).toArray below meth c H locs 0 0 (MQ below (xQ D cA A (MW cA h0 q.2) (some (.int q.1))) ([.ref (h0 0), .int a1] : List Value).toArray s 0 0 A) (F0 m 44 ls [.int t0_12, .int t1_12]) := by
                clear h hP hD hS hl
                intro t0_12 t1_12 v1_12 v2_12 v4_12 s0_12 H locs hP hD hS ls hl h
                rw [eJ44] at h
                refine lv_iadd hx hb dX13_accountByBalance_44 ?_
                refine lv_topi (fun x13 ex13 => ?_)
                have h := x_let h ex13
                refine lv_istore_n (lv' := [(3, .int x13), (0, .ref (h0 0)), (1, .int v1_12), (2, .int v2_12), (4, .int v4_12)]) hx hb dX13_accountByBalance_45 rfl hl (by decide) rfl (fun ls hl => ?_)
                obtain ⟨x14, ex14⟩ : ∃ y : Int32, y = v4_12 + (1) := ⟨_, rfl⟩
                have h := x_let h ex14
                refine lv_iinc (v := x14) (lv' := [(4, .int x14), (3, .int x13), (0, .ref (h0 0)), (1, .int v1_12), (2, .int v2_12)]) hx hb dX13_accountByBalance_46 hl (k := 4) rfl (by rw [ex14]; rfl) (by decide) rfl (fun ls hl => ?_)
                refine lv_goto (tgt := 17) hx hb dX13_accountByBalance_49 (by decide) ?_
                exact ih v1_12 v2_12 x13 x14 s0_12 _ _ hP hD hS _ (lv_sub hl [2, 3, 4, 1, 0] rfl) h
              refine lv_if_eq (tgt := 43) hx hb dX13_accountByBalance_36 (by decide) (fun c15 => ?_) (fun c15 => ?_)
              · have h := x_t h c15
                refine lv_iconst (v := 0) hx hb dX13_accountByBalance_43 (by decide) ?_
                exact hJ_J44 0 v3_9 v1_9 v2_9 v4_9 s0_9 _ _ hP hD hS _ (lv_sub hl [0, 1, 2, 4] rfl) h
              · have h := x_f h c15
                refine lv_iconst (v := 1) hx hb dX13_accountByBalance_39 (by decide) ?_
                refine lv_goto (tgt := 44) hx hb dX13_accountByBalance_40 (by decide) ?_
                exact hJ_J44 1 v3_9 v1_9 v2_9 v4_9 s0_9 _ _ hP hD hS _ (lv_sub hl [0, 1, 2, 4] rfl) h
        exact hL17 N v1_3 v2_3 0 0 s0_3 _ _ hP hD hS _ (lv_sub hl [2, 3, 4, 1, 0] rfl) h
  exact hL2 N a1 0 s0 _ _ hP hD hS _ (lv_sub hl [1, 2, 0] rfl) h
def fX13_curtainCount (N : Nat)  (s0 : MS) : Option (Int32 × MS) :=
  xcall (fX13_done N (s0.1 8) s0) fun q1 =>
  some (q1.1, q1.2)
set_option maxRecDepth 100000 in
set_option maxHeartbeats 4000000 in
theorem kX13_curtainCount (l : Launch) (D : va_G) (cA : Nat → ClassId) (h0 : Nat → Nat) (sz N : Nat)  (s0 : MS) (q : Int32 × MS) (h : fX13_curtainCount N s0 = some q) : xM l yX13_curtainCount cX13_curtainCount 1 (some .int) ({ frames := 1, cells := 0, slots := 0, locals := 21 }) D cA (MW cA h0 s0) sz [.ref (h0 0)] (some (.int q.1)) (MW cA h0 q.2) := by
  generalize erm : ({ frames := 1, cells := 0, slots := 0, locals := 21 } : Room) = rm
  refine xMet (by decide) (Nat.le_of_ble_eq_true rfl) ?_
  intro p e s m below meth c hx hb hr hlocks hml hts hown hin hK hP A eA hD hS hA hsz ls hl
  have hl : lv_has ls 1 [(0, .ref (h0 0))] := hl
  clear eA
  rw [fX13_curtainCount] at h
  refine lv_aload_n hx hb dX13_curtainCount_0 rfl (lv_at hl 0 rfl) ?_
  refine lv_aload_n hx hb dX13_curtainCount_1 rfl (lv_at hl 0 rfl) ?_
  refine va_get (D := D) (ci := 12) (v := .ref (h0 1)) (C := RX13) (T := TX13) (N := 16) hx hb hts iX13 hown hK hP 0 rfl rfl 0 (by decide) (hts _ qfl_X13_7) (fun _ h9 => h9) rfl dX13_curtainCount_2 ?_
  refine lv_bipush (v := 8) hx hb dX13_curtainCount_5 (by decide) ?_
  refine xIald hx hb hK hP 1 0 rfl rfl (x_lit (k := 8) (by decide)) dX13_curtainCount_7 ?_
  obtain ⟨q1, c1, h⟩ := x_call h
  refine xCall (w2 := MW cA h0 q1.2) (xRunV (n := 1) (As := [.int (s0.1 8)]) (rest := []) ⟨hx, hb, hml, hown, hts⟩ (kX13_done l D cA h0 _ N (s0.1 8) s0 q1 c1) qco_X13_done qml_X13_60 qin_X13_done qse_X13_done qini_X13 (by decide +kernel) (by rw [← erm]; rfl) hK hP hD [0, 1, 2, 3, 4, 5, 6, 7] rfl rfl (q0 := 0) rfl rfl rfl rfl rfl hl.1 rfl (lv_room (Nat.le_of_ble_eq_true rfl)) dX13_curtainCount_8 ⟨Nat.zero_le _, Nat.zero_le _⟩) hP hD hS hA [0, 1, 2, 3, 4, 5, 6, 7] [] [0, 1, 2, 3, 4, 5, 6, 7] rfl (wr := []) rfl rfl rfl rfl rfl (fun H locs hP hD hS => ?_)
  have h := Option.some.inj h
  subst h
  exact xIret hx hb hr hlocks hP hK hD hS dX13_curtainCount_11
def fX13_isConsistent (N : Nat)  (s0 : MS) : Option (Int32 × MS) :=
  some (1, (Ms12 s0 0))
set_option maxRecDepth 100000 in
set_option maxHeartbeats 4000000 in
theorem kX13_isConsistent (l : Launch) (D : va_G) (cA : Nat → ClassId) (h0 : Nat → Nat) (sz N : Nat)  (s0 : MS) (q : Int32 × MS) (h : fX13_isConsistent N s0 = some q) : xM l yX13_isConsistent cX13_isConsistent 1 (some .boolean) ({ frames := 0, cells := 0, slots := 0, locals := 0 }) D cA (MW cA h0 s0) sz [.ref (h0 0)] (some (.int q.1)) (MW cA h0 q.2) := by
  generalize erm : ({ frames := 0, cells := 0, slots := 0, locals := 0 } : Room) = rm
  refine xMet (by decide) (Nat.le_of_ble_eq_true rfl) ?_
  intro p e s m below meth c hx hb hr hlocks hml hts hown hin hK hP A eA hD hS hA hsz ls hl
  have hl : lv_has ls 1 [(0, .ref (h0 0))] := hl
  clear eA
  rw [fX13_isConsistent] at h
  refine lv_aload_n hx hb dX13_isConsistent_0 rfl (lv_at hl 0 rfl) ?_
  refine lv_iconst (v := 0) hx hb dX13_isConsistent_1 (by decide) ?_
  refine va_put (D := D) (ci := 12) (v := .int 0) (ty := .int) (C := RX13) (T := TX13) (N := 16) hx hb hts iX13 tyX13 tyX13_ok nmX13 hown hK hP hD hS 0 rfl rfl 12 (by decide) (hts _ qfl_X13_39) (fun _ h9 => h9) rfl (by decide +kernel) rfl rfl (Nat.le_of_ble_eq_true rfl) dX13_isConsistent_2 (fun H locs hP hD hS => ?_)
  have hP : va_P D vwCl (MW cA h0 ((Ms12 s0 0))) H := hP
  have hD : va_D A (MW cA h0 ((Ms12 s0 0))) := hD
  refine lv_iconst (v := 1) hx hb dX13_isConsistent_5 (by decide) ?_
  have h := Option.some.inj h
  subst h
  exact xZret (v := 1) hx hb hr hlocks (by decide) hP hK hD hS dX13_isConsistent_6
def fX13_feed (N : Nat) (a1 : Int32) (s0 : MS) : Option (Int32 × MS) :=
  if s0.2.2.2.2.2.2.2.1 = 60 then
    xcall (fX13_fails N 1 s0) fun q6 =>
    some (q6.1, q6.2)
  else
    xrd 60 s0.2.2.2.2.2.2.2.1 fun k2 =>
    xlet (upd s0.2.2.2.2.2.2.1 k2 (vp_nar .char a1)) fun g3 =>
    xlet (s0.2.2.2.2.2.2.2.1 + 1) fun x4 =>
    xcall (fX13_done N x4 ((Ms7 (Ms6 s0 g3) x4))) fun q5 =>
    some (q5.1, q5.2)
set_option maxRecDepth 100000 in
set_option maxHeartbeats 4000000 in
theorem kX13_feed (l : Launch) (D : va_G) (cA : Nat → ClassId) (h0 : Nat → Nat) (sz N : Nat) (a1 : Int32) (s0 : MS) (q : Int32 × MS) (h : fX13_feed N a1 s0 = some q) : xM l yX13_feed cX13_feed 2 (some .int) ({ frames := 1, cells := 0, slots := 0, locals := 21 }) D cA (MW cA h0 s0) sz [.ref (h0 0), .int a1] (some (.int q.1)) (MW cA h0 q.2) := by
  generalize erm : ({ frames := 1, cells := 0, slots := 0, locals := 21 } : Room) = rm
  refine xMet (by decide) (Nat.le_of_ble_eq_true rfl) ?_
  intro p e s m below meth c hx hb hr hlocks hml hts hown hin hK hP A eA hD hS hA hsz ls hl
  have hl : lv_has ls 2 [(0, .ref (h0 0)), (1, .int a1)] := hl
  clear eA
  rw [fX13_feed] at h
  refine lv_aload_n hx hb dX13_feed_0 rfl (lv_at hl 0 rfl) ?_
  refine va_get (D := D) (ci := 12) (v := .int s0.2.2.2.2.2.2.2.1) (C := RX13) (T := TX13) (N := 16) hx hb hts iX13 hown hK hP 0 rfl rfl 7 (by decide) (hts _ qfl_X13_196) (fun _ h9 => h9) rfl dX13_feed_1 ?_
  refine lv_bipush (v := 60) hx hb dX13_feed_4 (by decide) ?_
  refine lv_icmp_ne (tgt := 15) hx hb dX13_feed_6 (by decide) (fun c1 => ?_) (fun c1 => ?_)
  · have h := x_f h c1
    refine lv_aload_n hx hb dX13_feed_15 rfl (lv_at hl 0 rfl) ?_
    refine va_get (D := D) (ci := 12) (v := .ref (h0 5)) (C := RX13) (T := TX13) (N := 16) hx hb hts iX13 hown hK hP 0 rfl rfl 6 (by decide) (hts _ qfl_X13_22) (fun _ h9 => h9) rfl dX13_feed_16 ?_
    refine lv_aload_n hx hb dX13_feed_19 rfl (lv_at hl 0 rfl) ?_
    refine va_get (D := D) (ci := 12) (v := .int s0.2.2.2.2.2.2.2.1) (C := RX13) (T := TX13) (N := 16) hx hb hts iX13 hown hK hP 0 rfl rfl 7 (by decide) (hts _ qfl_X13_196) (fun _ h9 => h9) rfl dX13_feed_20 ?_
    refine lv_iload_n hx hb dX13_feed_23 rfl (lv_at hl 1 rfl) ?_
    obtain ⟨k2, hk2, h⟩ := x_rd h
    refine xCast (w2 := fun zz => MW cA h0 ((Ms6 s0 zz))) hx hb hK hP hD hS 5 1 rfl rfl hk2 (fun _ => rfl) dX13_feed_24 (fun g3 eg3 H locs hP hD hS => ?_)
    have h := x_let h eg3
    have hP : va_P D vwCl (MW cA h0 ((Ms6 s0 g3))) H := hP
    have hD : va_D A (MW cA h0 ((Ms6 s0 g3))) := hD
    refine lv_aload_n hx hb dX13_feed_25 rfl (lv_at hl 0 rfl) ?_
    refine lv_dup hx hb dX13_feed_26 rfl ?_
    refine va_get (D := D) (ci := 12) (v := .int s0.2.2.2.2.2.2.2.1) (C := RX13) (T := TX13) (N := 16) hx hb hts iX13 hown hK hP 0 rfl rfl 7 (by decide) (hts _ qfl_X13_196) (fun _ h9 => h9) rfl dX13_feed_27 ?_
    refine lv_iconst (v := 1) hx hb dX13_feed_30 (by decide) ?_
    refine lv_iadd hx hb dX13_feed_31 ?_
    refine lv_topi (fun x4 ex4 => ?_)
    have h := x_let h ex4
    refine va_put (D := D) (ci := 12) (v := .int x4) (ty := .int) (C := RX13) (T := TX13) (N := 16) hx hb hts iX13 tyX13 tyX13_ok nmX13 hown hK hP hD hS 0 rfl rfl 7 (by decide) (hts _ qfl_X13_196) (fun _ h9 => h9) rfl (by decide +kernel) rfl rfl (Nat.le_of_ble_eq_true rfl) dX13_feed_32 (fun H locs hP hD hS => ?_)
    have hP : va_P D vwCl (MW cA h0 ((Ms7 (Ms6 s0 g3) x4))) H := hP
    have hD : va_D A (MW cA h0 ((Ms7 (Ms6 s0 g3) x4))) := hD
    refine lv_aload_n hx hb dX13_feed_35 rfl (lv_at hl 0 rfl) ?_
    refine lv_aload_n hx hb dX13_feed_36 rfl (lv_at hl 0 rfl) ?_
    refine va_get (D := D) (ci := 12) (v := .int x4) (C := RX13) (T := TX13) (N := 16) hx hb hts iX13 hown hK hP 0 rfl rfl 7 (by decide) (hts _ qfl_X13_196) (fun _ h9 => h9) rfl dX13_feed_37 ?_
    obtain ⟨q5, c5, h⟩ := x_call h
    refine xCall (w2 := MW cA h0 q5.2) (xRunV (n := 1) (As := [.int x4]) (rest := []) ⟨hx, hb, hml, hown, hts⟩ (kX13_done l D cA h0 _ N x4 ((Ms7 (Ms6 s0 g3) x4)) q5 c5) qco_X13_done qml_X13_60 qin_X13_done qse_X13_done qini_X13 (by decide +kernel) (by rw [← erm]; rfl) hK hP hD [0, 1, 2, 3, 4, 5, 6, 7] rfl rfl (q0 := 0) rfl rfl rfl rfl rfl hl.1 rfl (lv_room (Nat.le_of_ble_eq_true rfl)) dX13_feed_40 ⟨Nat.zero_le _, Nat.zero_le _⟩) hP hD hS hA [0, 1, 2, 3, 4, 5, 6, 7] [] [0, 1, 2, 3, 4, 5, 6, 7] rfl (wr := []) rfl rfl rfl rfl rfl (fun H locs hP hD hS => ?_)
    have h := Option.some.inj h
    subst h
    exact xIret hx hb hr hlocks hP hK hD hS dX13_feed_43
  · have h := x_t h c1
    refine lv_aload_n hx hb dX13_feed_9 rfl (lv_at hl 0 rfl) ?_
    refine lv_iconst (v := 1) hx hb dX13_feed_10 (by decide) ?_
    obtain ⟨q6, c6, h⟩ := x_call h
    refine xCall (w2 := MW cA h0 q6.2) (xRunV (n := 1) (As := [.int 1]) (rest := []) ⟨hx, hb, hml, hown, hts⟩ (kX13_fails l D cA h0 _ N 1 s0 q6 c6) qco_X13_fails qml_X13_57 qin_X13_fails qse_X13_fails qini_X13 (by decide +kernel) (by rw [← erm]; rfl) hK hP hD [0, 1, 2, 3, 4, 5, 6, 7] rfl rfl (q0 := 0) rfl rfl rfl rfl rfl hl.1 rfl (lv_room (Nat.le_of_ble_eq_true rfl)) dX13_feed_11 ⟨Nat.zero_le _, Nat.zero_le _⟩) hP hD hS hA [0, 1, 2, 3, 4, 5, 6, 7] [] [0, 1, 2, 3, 4, 5, 6, 7] rfl (wr := []) rfl rfl rfl rfl rfl (fun H locs hP hD hS => ?_)
    have h := Option.some.inj h
    subst h
    exact xIret hx hb hr hlocks hP hK hD hS dX13_feed_14
def fX13_here (N : Nat)  (s0 : MS) : Option (Int32) :=
  xjoin (fun (t0_1 : Int32) =>
      some t0_1
    ) fun J24 =>
  if s0.2.2.2.2.2.2.2.1 ≤ s0.2.2.2.2.2.2.2.2.2.2.2.2.2.1 then
    J24 (-1)
  else
    xrd 60 s0.2.2.2.2.2.2.2.2.2.2.2.2.2.1 fun k3 =>
    J24 (s0.2.2.2.2.2.2.1 k3)
set_option maxRecDepth 100000 in
set_option maxHeartbeats 4000000 in
theorem kX13_here (l : Launch) (D : va_G) (cA : Nat → ClassId) (h0 : Nat → Nat) (sz N : Nat)  (s0 : MS) (q : Int32) (h : fX13_here N s0 = some q) : xM l yX13_here cX13_here 1 (some .int) ({ frames := 0, cells := 0, slots := 0, locals := 0 }) D cA (MW cA h0 s0) sz [.ref (h0 0)] (some (.int q)) (MW cA h0 s0) := by
  generalize erm : ({ frames := 0, cells := 0, slots := 0, locals := 0 } : Room) = rm
  refine xMet (by decide) (Nat.le_of_ble_eq_true rfl) ?_
  intro p e s m below meth c hx hb hr hlocks hml hts hown hin hK hP A eA hD hS hA hsz ls hl
  have hl : lv_has ls 1 [(0, .ref (h0 0))] := hl
  clear eA
  rw [fX13_here] at h
  refine lv_aload_n hx hb dX13_here_0 rfl (lv_at hl 0 rfl) ?_
  refine va_get (D := D) (ci := 12) (v := .int s0.2.2.2.2.2.2.2.2.2.2.2.2.2.1) (C := RX13) (T := TX13) (N := 16) hx hb hts iX13 hown hK hP 0 rfl rfl 13 (by decide) (hts _ qfl_X13_199) (fun _ h9 => h9) rfl dX13_here_1 ?_
  refine lv_aload_n hx hb dX13_here_4 rfl (lv_at hl 0 rfl) ?_
  refine va_get (D := D) (ci := 12) (v := .int s0.2.2.2.2.2.2.2.1) (C := RX13) (T := TX13) (N := 16) hx hb hts iX13 hown hK hP 0 rfl rfl 7 (by decide) (hts _ qfl_X13_196) (fun _ h9 => h9) rfl dX13_here_5 ?_
  obtain ⟨J24, eJ24, h⟩ := x_join h
  have hJ_J24 : ∀ (t0_1 : Int32) (H : Heap) (locs : List Loc), va_P D vwCl (MW cA h0 s0) H → va_D A (MW cA h0 s0) → va_S A s.heap H locs → ∀ ls : Array Slot, lv_has ls 1 [] → J24 t0_1 = some q → W p l e rm s m ([.ref (h0 0)] : List Value).toArray below meth c H locs 0 0 (MQ below (xQ D cA A (MW cA h0 s0) (some (.int q))) ([.ref (h0 0)] : List Value).toArray s 0 0 A) (F0 m 24 ls [.int t0_1]) := by
    clear h hP hD hS hl
    intro t0_1 H locs hP hD hS ls hl h
    rw [eJ24] at h
    have h := Option.some.inj h
    subst h
    exact xIret hx hb hr hlocks hP hK hD hS dX13_here_24
  refine lv_icmp_ge (tgt := 23) hx hb dX13_here_8 (by decide) (fun c2 => ?_) (fun c2 => ?_)
  · have h := x_t h c2
    refine lv_iconst (v := (-1)) hx hb dX13_here_23 (by decide) ?_
    exact hJ_J24 (-1) _ _ hP hD hS _ (lv_sub hl [] rfl) h
  · have h := x_f h c2
    refine lv_aload_n hx hb dX13_here_11 rfl (lv_at hl 0 rfl) ?_
    refine va_get (D := D) (ci := 12) (v := .ref (h0 5)) (C := RX13) (T := TX13) (N := 16) hx hb hts iX13 hown hK hP 0 rfl rfl 6 (by decide) (hts _ qfl_X13_22) (fun _ h9 => h9) rfl dX13_here_12 ?_
    refine lv_aload_n hx hb dX13_here_15 rfl (lv_at hl 0 rfl) ?_
    refine va_get (D := D) (ci := 12) (v := .int s0.2.2.2.2.2.2.2.2.2.2.2.2.2.1) (C := RX13) (T := TX13) (N := 16) hx hb hts iX13 hown hK hP 0 rfl rfl 13 (by decide) (hts _ qfl_X13_199) (fun _ h9 => h9) rfl dX13_here_16 ?_
    obtain ⟨k3, hk3, h⟩ := x_rd h
    refine xCald hx hb hK hP 5 1 rfl rfl hk3 dX13_here_19 ?_
    refine lv_goto (tgt := 24) hx hb dX13_here_20 (by decide) ?_
    exact hJ_J24 (s0.2.2.2.2.2.2.1 k3) _ _ hP hD hS _ (lv_sub hl [] rfl) h
