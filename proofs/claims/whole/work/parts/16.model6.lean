/-! the reference, method by method: what it computes, and that its bytes compute it -/
def fX13_opensBy (N : Nat) (a1 : Int32) (a2 : Int32) (s0 : MS) : Option (Int32 × MS) :=
  xjoin (fun (t0_1 : Int32) (v1_1 : Int32) (v2_1 : Int32) (s0_1 : MS) =>
      xjoin (fun (t0_2 : Int32) (s0_2 : MS) =>
          some (t0_2, s0_2)
        ) fun J50 =>
      if t0_1 = 0 then
        xcall (fX13_fails N 1 s0_1) fun q4 =>
        J50 q4.1 q4.2
      else
        xcall (fX13_opens N v1_1 v2_1 s0_1) fun q5 =>
        J50 q5.1 q5.2
    ) fun J31 =>
  xjoin (fun (v1_6 : Int32) (v2_6 : Int32) (s0_6 : MS) =>
      J31 1 v1_6 v2_6 s0_6
    ) fun J26 =>
  if a2 = (-1) then
    J26 a1 a2 s0
  else
    xcall (fX13_isAccount N a2 s0) fun q8 =>
    xjoin (fun (v1_9 : Int32) (v2_9 : Int32) (s0_9 : MS) =>
        J31 0 v1_9 v2_9 s0_9
      ) fun J30 =>
    if q8 = 0 then
      J30 a1 a2 s0
    else
      xrd 229 (9 + a2) fun k11 =>
      if (s0.1 k11) = a1 then
        J26 a1 a2 s0
      else
        J30 a1 a2 s0
set_option maxRecDepth 100000 in
set_option maxHeartbeats 4000000 in
theorem kX13_opensBy (l : Launch) (D : va_G) (cA : Nat → ClassId) (h0 : Nat → Nat) (sz N : Nat) (a1 : Int32) (a2 : Int32) (s0 : MS) (q : Int32 × MS) (h : fX13_opensBy N a1 a2 s0 = some q) : xM l yX13_opensBy cX13_opensBy 4 (some .int) ({ frames := 2, cells := 0, slots := 0, locals := 44 }) D cA (MW cA h0 s0) sz [.ref (h0 0), .int a1, .int a2] (some (.int q.1)) (MW cA h0 q.2) := by
  generalize erm : ({ frames := 2, cells := 0, slots := 0, locals := 44 } : Room) = rm
  refine xMet (by decide) (Nat.le_of_ble_eq_true rfl) ?_
  intro p e s m below meth c hx hb hr hlocks hml hts hown hin hK hP A eA hD hS hA hsz ls hl
  have hl : lv_has ls 4 [(0, .ref (h0 0)), (1, .int a1), (2, .int a2)] := hl
  clear eA
  rw [fX13_opensBy] at h
  refine lv_iload_n hx hb dX13_opensBy_0 rfl (lv_at hl 2 rfl) ?_
  refine lv_iconst (v := (-1)) hx hb dX13_opensBy_1 (by decide) ?_
  obtain ⟨J31, eJ31, h⟩ := x_join h
  have hJ_J31 : ∀ (t0_1 : Int32) (v1_1 : Int32) (v2_1 : Int32) (s0_1 : MS) (H : Heap) (locs : List Loc), va_P D vwCl (MW cA h0 s0_1) H → va_D A (MW cA h0 s0_1) → va_S A s.heap H locs → ∀ ls : Array Slot, lv_has ls 4 [(0, .ref (h0 0)), (1, .int v1_1), (2, .int v2_1)] → J31 t0_1 v1_1 v2_1 s0_1 = some q → W p l e rm s m ([.ref (h0 0), .int a1, .int a2] : List Value).toArray below meth c H locs 0 0 (MQ below (xQ D cA A (MW cA h0 q.2) (some (.int q.1))) ([.ref (h0 0), .int a1, .int a2] : List Value).toArray s 0 0 A) (F0 m 31 ls [.int t0_1]) := by
    clear h hP hD hS hl
    intro t0_1 v1_1 v2_1 s0_1 H locs hP hD hS ls hl h
    rw [eJ31] at h
    refine lv_istore_n (lv' := [(3, .int t0_1), (0, .ref (h0 0)), (1, .int v1_1), (2, .int v2_1)]) hx hb dX13_opensBy_31 rfl hl (by decide) rfl (fun ls hl => ?_)
    refine lv_iload_n hx hb dX13_opensBy_32 rfl (lv_at hl 0 rfl) ?_
    obtain ⟨J50, eJ50, h⟩ := x_join h
    have hJ_J50 : ∀ (t0_2 : Int32) (s0_2 : MS) (H : Heap) (locs : List Loc), va_P D vwCl (MW cA h0 s0_2) H → va_D A (MW cA h0 s0_2) → va_S A s.heap H locs → ∀ ls : Array Slot, lv_has ls 4 [] → J50 t0_2 s0_2 = some q → W p l e rm s m ([.ref (h0 0), .int a1, .int a2] : List Value).toArray below meth c H locs 0 0 (MQ below (xQ D cA A (MW cA h0 q.2) (some (.int q.1))) ([.ref (h0 0), .int a1, .int a2] : List Value).toArray s 0 0 A) (F0 m 50 ls [.int t0_2]) := by
      clear h hP hD hS hl
      intro t0_2 s0_2 H locs hP hD hS ls hl h
      rw [eJ50] at h
      have h := Option.some.inj h
      subst h
      exact xIret hx hb hr hlocks hP hK hD hS dX13_opensBy_50
    refine lv_if_eq (tgt := 45) hx hb dX13_opensBy_33 (by decide) (fun c3 => ?_) (fun c3 => ?_)
    · have h := x_t h c3
      refine lv_aload_n hx hb dX13_opensBy_45 rfl (lv_at hl 1 rfl) ?_
      refine lv_iconst (v := 1) hx hb dX13_opensBy_46 (by decide) ?_
      obtain ⟨q4, c4, h⟩ := x_call h
      refine xCall (w2 := MW cA h0 q4.2) (xRunV (n := 1) (As := [.int 1]) (rest := []) ⟨hx, hb, hml, hown, hts⟩ (kX13_fails l D cA h0 _ N 1 s0_1 q4 c4) qco_X13_fails qml_X13_57 qin_X13_fails qse_X13_fails qini_X13 (by decide +kernel) (by rw [← erm]; rfl) hK hP hD [0, 1, 2, 3, 4, 5, 6, 7] rfl rfl (q0 := 0) rfl rfl rfl rfl rfl hl.1 rfl (lv_room (Nat.le_of_ble_eq_true rfl)) dX13_opensBy_47 ⟨Nat.zero_le _, Nat.zero_le _⟩) hP hD hS hA [0, 1, 2, 3, 4, 5, 6, 7] [] [0, 1, 2, 3, 4, 5, 6, 7] rfl (wr := []) rfl rfl rfl rfl rfl (fun H locs hP hD hS => ?_)
      exact hJ_J50 q4.1 q4.2 _ _ hP hD hS _ (lv_sub hl [] rfl) h
    · have h := x_f h c3
      refine lv_aload_n hx hb dX13_opensBy_36 rfl (lv_at hl 1 rfl) ?_
      refine lv_iload_n hx hb dX13_opensBy_37 rfl (lv_at hl 2 rfl) ?_
      refine lv_iload_n hx hb dX13_opensBy_38 rfl (lv_at hl 3 rfl) ?_
      obtain ⟨q5, c5, h⟩ := x_call h
      refine xCall (w2 := MW cA h0 q5.2) (xRunV (n := 2) (As := [.int v1_1, .int v2_1]) (rest := []) ⟨hx, hb, hml, hown, hts⟩ (kX13_opens l D cA h0 _ N v1_1 v2_1 s0_1 q5 c5) qco_X13_opens qml_X13_70 qin_X13_opens qse_X13_opens qini_X13 (by decide +kernel) (by rw [← erm]; rfl) hK hP hD [0, 1, 2, 3, 4, 5, 6, 7] rfl rfl (q0 := 0) rfl rfl rfl rfl rfl hl.1 rfl (lv_room (Nat.le_of_ble_eq_true rfl)) dX13_opensBy_39 ⟨Nat.zero_le _, Nat.zero_le _⟩) hP hD hS hA [0, 1, 2, 3, 4, 5, 6, 7] [] [0, 1, 2, 3, 4, 5, 6, 7] rfl (wr := []) rfl rfl rfl rfl rfl (fun H locs hP hD hS => ?_)
      refine lv_goto (tgt := 50) hx hb dX13_opensBy_42 (by decide) ?_
      exact hJ_J50 q5.1 q5.2 _ _ hP hD hS _ (lv_sub hl [] rfl) h
  obtain ⟨J26, eJ26, h⟩ := x_join h
  have hJ_J26 : ∀ (v1_6 : Int32) (v2_6 : Int32) (s0_6 : MS) (H : Heap) (locs : List Loc), va_P D vwCl (MW cA h0 s0_6) H → va_D A (MW cA h0 s0_6) → va_S A s.heap H locs → ∀ ls : Array Slot, lv_has ls 4 [(0, .ref (h0 0)), (1, .int v1_6), (2, .int v2_6)] → J26 v1_6 v2_6 s0_6 = some q → W p l e rm s m ([.ref (h0 0), .int a1, .int a2] : List Value).toArray below meth c H locs 0 0 (MQ below (xQ D cA A (MW cA h0 q.2) (some (.int q.1))) ([.ref (h0 0), .int a1, .int a2] : List Value).toArray s 0 0 A) (F0 m 26 ls []) := by
    clear h hP hD hS hl
    intro v1_6 v2_6 s0_6 H locs hP hD hS ls hl h
    rw [eJ26] at h
    refine lv_iconst (v := 1) hx hb dX13_opensBy_26 (by decide) ?_
    refine lv_goto (tgt := 31) hx hb dX13_opensBy_27 (by decide) ?_
    exact hJ_J31 1 v1_6 v2_6 s0_6 _ _ hP hD hS _ (lv_sub hl [0, 1, 2] rfl) h
  refine lv_icmp_eq (tgt := 26) hx hb dX13_opensBy_2 (by decide) (fun c7 => ?_) (fun c7 => ?_)
  · have h := x_t h c7
    exact hJ_J26 a1 a2 s0 _ _ hP hD hS _ (lv_sub hl [0, 1, 2] rfl) h
  · have h := x_f h c7
    refine lv_aload_n hx hb dX13_opensBy_5 rfl (lv_at hl 0 rfl) ?_
    refine lv_iload_n hx hb dX13_opensBy_6 rfl (lv_at hl 2 rfl) ?_
    obtain ⟨q8, c8, h⟩ := x_call h
    refine xCall (w2 := MW cA h0 s0) (xRunV (n := 1) (As := [.int a2]) (rest := []) ⟨hx, hb, hml, hown, hts⟩ (kX13_isAccount l D cA h0 _ N a2 s0 q8 c8) qco_X13_isAccount qml_X13_77 qin_X13_isAccount qse_X13_isAccount qini_X13 (by decide +kernel) (by rw [← erm]; rfl) hK hP hD [0, 1, 2, 3, 4, 5, 6, 7] rfl rfl (q0 := 0) rfl rfl rfl rfl rfl hl.1 rfl (lv_room (Nat.le_of_ble_eq_true rfl)) dX13_opensBy_7 ⟨Nat.zero_le _, Nat.zero_le _⟩) hP hD hS hA [0, 1, 2, 3, 4, 5, 6, 7] [] [0, 1, 2, 3, 4, 5, 6, 7] rfl (wr := []) rfl rfl rfl rfl rfl (fun H locs hP hD hS => ?_)
    obtain ⟨J30, eJ30, h⟩ := x_join h
    have hJ_J30 : ∀ (v1_9 : Int32) (v2_9 : Int32) (s0_9 : MS) (H : Heap) (locs : List Loc), va_P D vwCl (MW cA h0 s0_9) H → va_D A (MW cA h0 s0_9) → va_S A s.heap H locs → ∀ ls : Array Slot, lv_has ls 4 [(0, .ref (h0 0)), (1, .int v1_9), (2, .int v2_9)] → J30 v1_9 v2_9 s0_9 = some q → W p l e rm s m ([.ref (h0 0), .int a1, .int a2] : List Value).toArray below meth c H locs 0 0 (MQ below (xQ D cA A (MW cA h0 q.2) (some (.int q.1))) ([.ref (h0 0), .int a1, .int a2] : List Value).toArray s 0 0 A) (F0 m 30 ls []) := by
      clear h hP hD hS hl
      intro v1_9 v2_9 s0_9 H locs hP hD hS ls hl h
      rw [eJ30] at h
      refine lv_iconst (v := 0) hx hb dX13_opensBy_30 (by decide) ?_
      exact hJ_J31 0 v1_9 v2_9 s0_9 _ _ hP hD hS _ (lv_sub hl [0, 1, 2] rfl) h
    refine lv_if_eq (tgt := 30) hx hb dX13_opensBy_10 (by decide) (fun c10 => ?_) (fun c10 => ?_)
    · have h := x_t h c10
      exact hJ_J30 a1 a2 s0 _ _ hP hD hS _ (lv_sub hl [0, 1, 2] rfl) h
    · have h := x_f h c10
      refine lv_aload_n hx hb dX13_opensBy_13 rfl (lv_at hl 0 rfl) ?_
      refine va_get (D := D) (ci := 12) (v := .ref (h0 1)) (C := RX13) (T := TX13) (N := 16) hx hb hts iX13 hown hK hP 0 rfl rfl 0 (by decide) (hts _ qfl_X13_7) (fun _ h9 => h9) rfl dX13_opensBy_14 ?_
      refine lv_bipush (v := 9) hx hb dX13_opensBy_17 (by decide) ?_
      refine lv_iload_n hx hb dX13_opensBy_19 rfl (lv_at hl 2 rfl) ?_
      refine lv_iadd hx hb dX13_opensBy_20 ?_
      obtain ⟨k11, hk11, h⟩ := x_rd h
      refine xIald hx hb hK hP 1 0 rfl rfl hk11 dX13_opensBy_21 ?_
      refine lv_iload_n hx hb dX13_opensBy_22 rfl (lv_at hl 1 rfl) ?_
      refine lv_icmp_ne (tgt := 30) hx hb dX13_opensBy_23 (by decide) (fun c12 => ?_) (fun c12 => ?_)
      · have h := x_f h c12
        exact hJ_J30 a1 a2 s0 _ _ hP hD hS _ (lv_sub hl [0, 1, 2] rfl) h
      · have h := x_t h c12
        exact hJ_J26 a1 a2 s0 _ _ hP hD hS _ (lv_sub hl [0, 1, 2] rfl) h
def fX13_carriesOut (N : Nat) (a1 : Int32) (s0 : MS) : Option (Int32 × MS) :=
  xrd 240 (a1 + 1) fun k1 =>
  xlet (s0.2.2.2.2.2.2.2.2.2.2.2.2.2.2.2 k1) fun x2 =>
  xrd 240 (a1 + 2) fun k3 =>
  xlet (s0.2.2.2.2.2.2.2.2.2.2.2.2.2.2.2 k3) fun x4 =>
  xrd 240 a1 fun k5 =>
  xjoin (fun (s0_6 : MS) =>
      xcall (fX13_falls N s0_6) fun q7 =>
      some (q7.1, q7.2)
    ) fun J196 =>
  xlet (s0.2.2.2.2.2.2.2.2.2.2.2.2.2.2.2 k5) fun x8 =>
  if x8 = 98 then
    xcall (fX13_reverses N x2 s0) fun q10 =>
    some (q10.1, q10.2)
  else
  if x8 = 108 then
    xcall (fX13_writesBill N x2 s0) fun q11 =>
    some (q11.1, q11.2)
  else
  if x8 = 111 then
    xcall (fX13_opensBy N x2 x4 s0) fun q12 =>
    some (q12.1, q12.2)
  else
  if x8 = 112 then
    xrd 240 (a1 + 3) fun k13 =>
    xcall (fX13_posts N x2 x4 (s0.2.2.2.2.2.2.2.2.2.2.2.2.2.2.2 k13) s0) fun q14 =>
    some (q14.1, q14.2)
  else
  if x8 = 115 then
    xcall (fX13_sells N x2 x4 s0) fun q15 =>
    some (q15.1, q15.2)
  else
  if x8 = 117 then
    xcall (fX13_buys N x2 x4 s0) fun q16 =>
    some (q16.1, q16.2)
  else
  if x8 = 119 then
    xcall (fX13_passes N x2 s0) fun q17 =>
    some (q17.1, q17.2)
  else
  if x8 = 121 then
    xcall (fX13_pays N x2 s0) fun q18 =>
    some (q18.1, q18.2)
  else
  J196 s0
set_option maxRecDepth 100000 in
set_option maxHeartbeats 4000000 in
theorem kX13_carriesOut (l : Launch) (D : va_G) (cA : Nat → ClassId) (h0 : Nat → Nat) (sz N : Nat) (a1 : Int32) (s0 : MS) (q : Int32 × MS) (h : fX13_carriesOut N a1 s0 = some q) : xM l yX13_carriesOut cX13_carriesOut 4 (some .int) ({ frames := 4, cells := 0, slots := 0, locals := 93 }) D cA (MW cA h0 s0) sz [.ref (h0 0), .int a1] (some (.int q.1)) (MW cA h0 q.2) := by
  generalize erm : ({ frames := 4, cells := 0, slots := 0, locals := 93 } : Room) = rm
  refine xMet (by decide) (Nat.le_of_ble_eq_true rfl) ?_
  intro p e s m below meth c hx hb hr hlocks hml hts hown hin hK hP A eA hD hS hA hsz ls hl
  have hl : lv_has ls 4 [(0, .ref (h0 0)), (1, .int a1)] := hl
  clear eA
  rw [fX13_carriesOut] at h
  refine lv_aload_n hx hb dX13_carriesOut_0 rfl (lv_at hl 0 rfl) ?_
  refine va_get (D := D) (ci := 12) (v := .ref (h0 7)) (C := RX13) (T := TX13) (N := 16) hx hb hts iX13 hown hK hP 0 rfl rfl 15 (by decide) (hts _ qfl_X13_36) (fun _ h9 => h9) rfl dX13_carriesOut_1 ?_
  refine lv_iload_n hx hb dX13_carriesOut_4 rfl (lv_at hl 1 rfl) ?_
  refine lv_iconst (v := 1) hx hb dX13_carriesOut_5 (by decide) ?_
  refine lv_iadd hx hb dX13_carriesOut_6 ?_
  obtain ⟨k1, hk1, h⟩ := x_rd h
  refine xIald hx hb hK hP 7 0 rfl rfl hk1 dX13_carriesOut_7 ?_
  refine lv_topi (fun x2 ex2 => ?_)
  have h := x_let h ex2
  refine lv_istore_n (lv' := [(2, .int x2), (0, .ref (h0 0)), (1, .int a1)]) hx hb dX13_carriesOut_8 rfl hl (by decide) rfl (fun ls hl => ?_)
  refine lv_aload_n hx hb dX13_carriesOut_9 rfl (lv_at hl 1 rfl) ?_
  refine va_get (D := D) (ci := 12) (v := .ref (h0 7)) (C := RX13) (T := TX13) (N := 16) hx hb hts iX13 hown hK hP 0 rfl rfl 15 (by decide) (hts _ qfl_X13_36) (fun _ h9 => h9) rfl dX13_carriesOut_10 ?_
  refine lv_iload_n hx hb dX13_carriesOut_13 rfl (lv_at hl 2 rfl) ?_
  refine lv_iconst (v := 2) hx hb dX13_carriesOut_14 (by decide) ?_
  refine lv_iadd hx hb dX13_carriesOut_15 ?_
  obtain ⟨k3, hk3, h⟩ := x_rd h
  refine xIald hx hb hK hP 7 0 rfl rfl hk3 dX13_carriesOut_16 ?_
  refine lv_topi (fun x4 ex4 => ?_)
  have h := x_let h ex4
  refine lv_istore_n (lv' := [(3, .int x4), (2, .int x2), (0, .ref (h0 0)), (1, .int a1)]) hx hb dX13_carriesOut_17 rfl hl (by decide) rfl (fun ls hl => ?_)
  refine lv_aload_n hx hb dX13_carriesOut_18 rfl (lv_at hl 2 rfl) ?_
  refine va_get (D := D) (ci := 12) (v := .ref (h0 7)) (C := RX13) (T := TX13) (N := 16) hx hb hts iX13 hown hK hP 0 rfl rfl 15 (by decide) (hts _ qfl_X13_36) (fun _ h9 => h9) rfl dX13_carriesOut_19 ?_
  refine lv_iload_n hx hb dX13_carriesOut_22 rfl (lv_at hl 3 rfl) ?_
  obtain ⟨k5, hk5, h⟩ := x_rd h
  refine xIald hx hb hK hP 7 0 rfl rfl hk5 dX13_carriesOut_23 ?_
  obtain ⟨J196, eJ196, h⟩ := x_join h
  have hJ_J196 : ∀ (s0_6 : MS) (H : Heap) (locs : List Loc), va_P D vwCl (MW cA h0 s0_6) H → va_D A (MW cA h0 s0_6) → va_S A s.heap H locs → ∀ ls : Array Slot, lv_has ls 4 [(0, .ref (h0 0))] → J196 s0_6 = some q → W p l e rm s m ([.ref (h0 0), .int a1] : List Value).toArray below meth c H locs 0 0 (MQ below (xQ D cA A (MW cA h0 q.2) (some (.int q.1))) ([.ref (h0 0), .int a1] : List Value).toArray s 0 0 A) (F0 m 196 ls []) := by
    clear h hP hD hS hl
    intro s0_6 H locs hP hD hS ls hl h
    rw [eJ196] at h
    refine lv_aload_n hx hb dX13_carriesOut_196 rfl (lv_at hl 0 rfl) ?_
    obtain ⟨q7, c7, h⟩ := x_call h
    refine xCall (w2 := MW cA h0 q7.2) (xRunV (n := 0) (As := []) (rest := []) ⟨hx, hb, hml, hown, hts⟩ (kX13_falls l D cA h0 _ N s0_6 q7 c7) qco_X13_falls qml_X13_164 qin_X13_falls qse_X13_falls qini_X13 (by decide +kernel) (by rw [← erm]; rfl) hK hP hD [0, 1, 2, 3, 4, 5, 6, 7] rfl rfl (q0 := 0) rfl rfl rfl rfl rfl hl.1 rfl (lv_room (Nat.le_of_ble_eq_true rfl)) dX13_carriesOut_197 ⟨Nat.zero_le _, Nat.zero_le _⟩) hP hD hS hA [0, 1, 2, 3, 4, 5, 6, 7] [] [0, 1, 2, 3, 4, 5, 6, 7] rfl (wr := []) rfl rfl rfl rfl rfl (fun H locs hP hD hS => ?_)
    have h := Option.some.inj h
    subst h
    exact xIret hx hb hr hlocks hP hK hD hS dX13_carriesOut_200
  refine lv_topi (fun x8 ex8 => ?_)
  have h := x_let h ex8
  by_cases c9_0 : x8 = 98
  · have h := x_t h c9_0
    rw [c9_0]
    refine lv_tableIn (tgt := 170) hx hb dX13_carriesOut_24 (by decide) (by decide) (off := 146) (by decide) (by decide) ?_
    refine lv_aload_n hx hb dX13_carriesOut_170 rfl (lv_at hl 2 rfl) ?_
    refine lv_iload_n hx hb dX13_carriesOut_171 rfl (lv_at hl 1 rfl) ?_
    obtain ⟨q10, c10, h⟩ := x_call h
    refine xCall (w2 := MW cA h0 q10.2) (xRunV (n := 1) (As := [.int x2]) (rest := []) ⟨hx, hb, hml, hown, hts⟩ (kX13_reverses l D cA h0 _ N x2 s0 q10 c10) qco_X13_reverses qml_X13_94 qin_X13_reverses qse_X13_reverses qini_X13 (by decide +kernel) (by rw [← erm]; rfl) hK hP hD [0, 1, 2, 3, 4, 5, 6, 7] rfl rfl (q0 := 0) rfl rfl rfl rfl rfl hl.1 rfl (lv_room (Nat.le_of_ble_eq_true rfl)) dX13_carriesOut_172 ⟨Nat.zero_le _, Nat.zero_le _⟩) hP hD hS hA [0, 1, 2, 3, 4, 5, 6, 7] [] [0, 1, 2, 3, 4, 5, 6, 7] rfl (wr := []) rfl rfl rfl rfl rfl (fun H locs hP hD hS => ?_)
    have h := Option.some.inj h
    subst h
    exact xIret hx hb hr hlocks hP hK hD hS dX13_carriesOut_175
  have h := x_f h c9_0
  by_cases c9_1 : x8 = 108
  · have h := x_t h c9_1
    rw [c9_1]
    refine lv_tableIn (tgt := 164) hx hb dX13_carriesOut_24 (by decide) (by decide) (off := 140) (by decide) (by decide) ?_
    refine lv_aload_n hx hb dX13_carriesOut_164 rfl (lv_at hl 2 rfl) ?_
    refine lv_iload_n hx hb dX13_carriesOut_165 rfl (lv_at hl 1 rfl) ?_
    obtain ⟨q11, c11, h⟩ := x_call h
    refine xCall (w2 := MW cA h0 q11.2) (xRunV (n := 1) (As := [.int x2]) (rest := []) ⟨hx, hb, hml, hown, hts⟩ (kX13_writesBill l D cA h0 _ N x2 s0 q11 c11) qco_X13_writesBill qml_X13_133 qin_X13_writesBill qse_X13_writesBill qini_X13 (by decide +kernel) (by rw [← erm]; rfl) hK hP hD [0, 1, 2, 3, 4, 5, 6, 7] rfl rfl (q0 := 0) rfl rfl rfl rfl rfl hl.1 rfl (lv_room (Nat.le_of_ble_eq_true rfl)) dX13_carriesOut_166 ⟨Nat.zero_le _, Nat.zero_le _⟩) hP hD hS hA [0, 1, 2, 3, 4, 5, 6, 7] [] [0, 1, 2, 3, 4, 5, 6, 7] rfl (wr := []) rfl rfl rfl rfl rfl (fun H locs hP hD hS => ?_)
    have h := Option.some.inj h
    subst h
    exact xIret hx hb hr hlocks hP hK hD hS dX13_carriesOut_169
  have h := x_f h c9_1
  by_cases c9_2 : x8 = 111
  · have h := x_t h c9_2
    rw [c9_2]
    refine lv_tableIn (tgt := 176) hx hb dX13_carriesOut_24 (by decide) (by decide) (off := 152) (by decide) (by decide) ?_
    refine lv_aload_n hx hb dX13_carriesOut_176 rfl (lv_at hl 2 rfl) ?_
    refine lv_iload_n hx hb dX13_carriesOut_177 rfl (lv_at hl 1 rfl) ?_
    refine lv_iload_n hx hb dX13_carriesOut_178 rfl (lv_at hl 0 rfl) ?_
    obtain ⟨q12, c12, h⟩ := x_call h
    refine xCall (w2 := MW cA h0 q12.2) (xRunV (n := 2) (As := [.int x2, .int x4]) (rest := []) ⟨hx, hb, hml, hown, hts⟩ (kX13_opensBy l D cA h0 _ N x2 x4 s0 q12 c12) qco_X13_opensBy qml_X13_231 qin_X13_opensBy qse_X13_opensBy qini_X13 (by decide +kernel) (by rw [← erm]; rfl) hK hP hD [0, 1, 2, 3, 4, 5, 6, 7] rfl rfl (q0 := 0) rfl rfl rfl rfl rfl hl.1 rfl (lv_room (Nat.le_of_ble_eq_true rfl)) dX13_carriesOut_179 ⟨Nat.zero_le _, Nat.zero_le _⟩) hP hD hS hA [0, 1, 2, 3, 4, 5, 6, 7] [] [0, 1, 2, 3, 4, 5, 6, 7] rfl (wr := []) rfl rfl rfl rfl rfl (fun H locs hP hD hS => ?_)
    have h := Option.some.inj h
    subst h
    exact xIret hx hb hr hlocks hP hK hD hS dX13_carriesOut_182
  have h := x_f h c9_2
  by_cases c9_3 : x8 = 112
  · have h := x_t h c9_3
    rw [c9_3]
    refine lv_tableIn (tgt := 136) hx hb dX13_carriesOut_24 (by decide) (by decide) (off := 112) (by decide) (by decide) ?_
    refine lv_aload_n hx hb dX13_carriesOut_136 rfl (lv_at hl 2 rfl) ?_
    refine lv_iload_n hx hb dX13_carriesOut_137 rfl (lv_at hl 1 rfl) ?_
    refine lv_iload_n hx hb dX13_carriesOut_138 rfl (lv_at hl 0 rfl) ?_
    refine lv_aload_n hx hb dX13_carriesOut_139 rfl (lv_at hl 2 rfl) ?_
    refine va_get (D := D) (ci := 12) (v := .ref (h0 7)) (C := RX13) (T := TX13) (N := 16) hx hb hts iX13 hown hK hP 0 rfl rfl 15 (by decide) (hts _ qfl_X13_36) (fun _ h9 => h9) rfl dX13_carriesOut_140 ?_
    refine lv_iload_n hx hb dX13_carriesOut_143 rfl (lv_at hl 3 rfl) ?_
    refine lv_iconst (v := 3) hx hb dX13_carriesOut_144 (by decide) ?_
    refine lv_iadd hx hb dX13_carriesOut_145 ?_
    obtain ⟨k13, hk13, h⟩ := x_rd h
    refine xIald hx hb hK hP 7 0 rfl rfl hk13 dX13_carriesOut_146 ?_
    obtain ⟨q14, c14, h⟩ := x_call h
    refine xCall (w2 := MW cA h0 q14.2) (xRunV (n := 3) (As := [.int x2, .int x4, .int (s0.2.2.2.2.2.2.2.2.2.2.2.2.2.2.2 k13)]) (rest := []) ⟨hx, hb, hml, hown, hts⟩ (kX13_posts l D cA h0 _ N x2 x4 (s0.2.2.2.2.2.2.2.2.2.2.2.2.2.2.2 k13) s0 q14 c14) qco_X13_posts qml_X13_88 qin_X13_posts qse_X13_posts qini_X13 (by decide +kernel) (by rw [← erm]; rfl) hK hP hD [0, 1, 2, 3, 4, 5, 6, 7] rfl rfl (q0 := 0) rfl rfl rfl rfl rfl hl.1 rfl (lv_room (Nat.le_of_ble_eq_true rfl)) dX13_carriesOut_147 ⟨Nat.zero_le _, Nat.zero_le _⟩) hP hD hS hA [0, 1, 2, 3, 4, 5, 6, 7] [] [0, 1, 2, 3, 4, 5, 6, 7] rfl (wr := []) rfl rfl rfl rfl rfl (fun H locs hP hD hS => ?_)
    have h := Option.some.inj h
    subst h
    exact xIret hx hb hr hlocks hP hK hD hS dX13_carriesOut_150
  have h := x_f h c9_3
  by_cases c9_4 : x8 = 115
  · have h := x_t h c9_4
    rw [c9_4]
    refine lv_tableIn (tgt := 183) hx hb dX13_carriesOut_24 (by decide) (by decide) (off := 159) (by decide) (by decide) ?_
    refine lv_aload_n hx hb dX13_carriesOut_183 rfl (lv_at hl 2 rfl) ?_
    refine lv_iload_n hx hb dX13_carriesOut_184 rfl (lv_at hl 1 rfl) ?_
    refine lv_iload_n hx hb dX13_carriesOut_185 rfl (lv_at hl 0 rfl) ?_
    obtain ⟨q15, c15, h⟩ := x_call h
    refine xCall (w2 := MW cA h0 q15.2) (xRunV (n := 2) (As := [.int x2, .int x4]) (rest := []) ⟨hx, hb, hml, hown, hts⟩ (kX13_sells l D cA h0 _ N x2 x4 s0 q15 c15) qco_X13_sells qml_X13_130 qin_X13_sells qse_X13_sells qini_X13 (by decide +kernel) (by rw [← erm]; rfl) hK hP hD [0, 1, 2, 3, 4, 5, 6, 7] rfl rfl (q0 := 0) rfl rfl rfl rfl rfl hl.1 rfl (lv_room (Nat.le_of_ble_eq_true rfl)) dX13_carriesOut_186 ⟨Nat.zero_le _, Nat.zero_le _⟩) hP hD hS hA [0, 1, 2, 3, 4, 5, 6, 7] [] [0, 1, 2, 3, 4, 5, 6, 7] rfl (wr := []) rfl rfl rfl rfl rfl (fun H locs hP hD hS => ?_)
    have h := Option.some.inj h
    subst h
    exact xIret hx hb hr hlocks hP hK hD hS dX13_carriesOut_189
  have h := x_f h c9_4
  by_cases c9_5 : x8 = 117
  · have h := x_t h c9_5
    rw [c9_5]
    refine lv_tableIn (tgt := 157) hx hb dX13_carriesOut_24 (by decide) (by decide) (off := 133) (by decide) (by decide) ?_
    refine lv_aload_n hx hb dX13_carriesOut_157 rfl (lv_at hl 2 rfl) ?_
    refine lv_iload_n hx hb dX13_carriesOut_158 rfl (lv_at hl 1 rfl) ?_
    refine lv_iload_n hx hb dX13_carriesOut_159 rfl (lv_at hl 0 rfl) ?_
    obtain ⟨q16, c16, h⟩ := x_call h
    refine xCall (w2 := MW cA h0 q16.2) (xRunV (n := 2) (As := [.int x2, .int x4]) (rest := []) ⟨hx, hb, hml, hown, hts⟩ (kX13_buys l D cA h0 _ N x2 x4 s0 q16 c16) qco_X13_buys qml_X13_118 qin_X13_buys qse_X13_buys qini_X13 (by decide +kernel) (by rw [← erm]; rfl) hK hP hD [0, 1, 2, 3, 4, 5, 6, 7] rfl rfl (q0 := 0) rfl rfl rfl rfl rfl hl.1 rfl (lv_room (Nat.le_of_ble_eq_true rfl)) dX13_carriesOut_160 ⟨Nat.zero_le _, Nat.zero_le _⟩) hP hD hS hA [0, 1, 2, 3, 4, 5, 6, 7] [] [0, 1, 2, 3, 4, 5, 6, 7] rfl (wr := []) rfl rfl rfl rfl rfl (fun H locs hP hD hS => ?_)
    have h := Option.some.inj h
    subst h
    exact xIret hx hb hr hlocks hP hK hD hS dX13_carriesOut_163
  have h := x_f h c9_5
  by_cases c9_6 : x8 = 119
  · have h := x_t h c9_6
    rw [c9_6]
    refine lv_tableIn (tgt := 190) hx hb dX13_carriesOut_24 (by decide) (by decide) (off := 166) (by decide) (by decide) ?_
    refine lv_aload_n hx hb dX13_carriesOut_190 rfl (lv_at hl 2 rfl) ?_
    refine lv_iload_n hx hb dX13_carriesOut_191 rfl (lv_at hl 1 rfl) ?_
    obtain ⟨q17, c17, h⟩ := x_call h
    refine xCall (w2 := MW cA h0 q17.2) (xRunV (n := 1) (As := [.int x2]) (rest := []) ⟨hx, hb, hml, hown, hts⟩ (kX13_passes l D cA h0 _ N x2 s0 q17 c17) qco_X13_passes qml_X13_115 qin_X13_passes qse_X13_passes qini_X13 (by decide +kernel) (by rw [← erm]; rfl) hK hP hD [0, 1, 2, 3, 4, 5, 6, 7] rfl rfl (q0 := 0) rfl rfl rfl rfl rfl hl.1 rfl (lv_room (Nat.le_of_ble_eq_true rfl)) dX13_carriesOut_192 ⟨Nat.zero_le _, Nat.zero_le _⟩) hP hD hS hA [0, 1, 2, 3, 4, 5, 6, 7] [] [0, 1, 2, 3, 4, 5, 6, 7] rfl (wr := []) rfl rfl rfl rfl rfl (fun H locs hP hD hS => ?_)
    have h := Option.some.inj h
    subst h
    exact xIret hx hb hr hlocks hP hK hD hS dX13_carriesOut_195
  have h := x_f h c9_6
  by_cases c9_7 : x8 = 121
  · have h := x_t h c9_7
    rw [c9_7]
    refine lv_tableIn (tgt := 151) hx hb dX13_carriesOut_24 (by decide) (by decide) (off := 127) (by decide) (by decide) ?_
    refine lv_aload_n hx hb dX13_carriesOut_151 rfl (lv_at hl 2 rfl) ?_
    refine lv_iload_n hx hb dX13_carriesOut_152 rfl (lv_at hl 1 rfl) ?_
    obtain ⟨q18, c18, h⟩ := x_call h
    refine xCall (w2 := MW cA h0 q18.2) (xRunV (n := 1) (As := [.int x2]) (rest := []) ⟨hx, hb, hml, hown, hts⟩ (kX13_pays l D cA h0 _ N x2 s0 q18 c18) qco_X13_pays qml_X13_158 qin_X13_pays qse_X13_pays qini_X13 (by decide +kernel) (by rw [← erm]; rfl) hK hP hD [0, 1, 2, 3, 4, 5, 6, 7] rfl rfl (q0 := 0) rfl rfl rfl rfl rfl hl.1 rfl (lv_room (Nat.le_of_ble_eq_true rfl)) dX13_carriesOut_153 ⟨Nat.zero_le _, Nat.zero_le _⟩) hP hD hS hA [0, 1, 2, 3, 4, 5, 6, 7] [] [0, 1, 2, 3, 4, 5, 6, 7] rfl (wr := []) rfl rfl rfl rfl rfl (fun H locs hP hD hS => ?_)
    have h := Option.some.inj h
    subst h
    exact xIret hx hb hr hlocks hP hK hD hS dX13_carriesOut_156
  have h := x_f h c9_7
  refine xTbl (tgt := 196) hx hb dX13_carriesOut_24 [98, 108, 111, 112, 115, 117, 119, 121] (by simp only [List.forall_mem_cons]; exact ⟨c9_0, c9_1, c9_2, c9_3, c9_4, c9_5, c9_6, c9_7, fun _ h9 => absurd h9 List.not_mem_nil⟩) (by decide +kernel) (by decide) ?_
  exact hJ_J196 s0 _ _ hP hD hS _ (lv_sub hl [2] rfl) h
def fX13_runCommands_L130 (N : Nat) (K174 : Int32 → MS → Option (Int32 × MS)) : Nat → Int32 → Int32 → MS → Option (Int32 × MS)
  | 0, _, _, _ => none
  | n + 1, v1_9, v3_9, s0_9 =>
    if v1_9 ≤ v3_9 then
      K174 v1_9 s0_9
    else
      xcall (fX13_carriesOut N (4 * v3_9) s0_9) fun q11 =>
      if q11.2.2.2.2.2.2.2.2.2.2.2.2.2.1 = 0 then
        xlet (v3_9 + (1)) fun x13 =>
        fX13_runCommands_L130 N K174 n v1_9 x13 q11.2
      else
        xcall (fX13_kept N q11.1 ((Ms12 (Ms9 q11.2 v3_9) 2))) fun q14 =>
        some (q14.1, q14.2)
def fX13_runCommands_L14 (N : Nat) (K71 : Int32 → MS → Option (Int32 × MS)) : Nat → Int32 → Int32 → MS → Option (Int32 × MS)
  | 0, _, _, _ => none
  | n + 1, v1_19, v2_19, s0_19 =>
    if v2_19 = 0 then
      K71 v1_19 s0_19
    else
      xcall (fX13_parsesCommand N (4 * v1_19) s0_19) fun q21 =>
      xlet (v1_19 + (1)) fun x22 =>
      xjoin (fun (t0_23 : Int32) (v1_23 : Int32) (s0_23 : MS) =>
          xjoin (fun (t0_24 : Int32) (t1_24 : Int32) (v1_24 : Int32) (v2_24 : Int32) (s0_24 : MS) =>
              xlet (t1_24 + t0_24) fun x25 =>
              fX13_runCommands_L14 N K71 n v1_24 v2_24 ((Ms13 s0_24 x25))
            ) fun J64 =>
          if t0_23 = 0 then
            J64 0 s0_23.2.2.2.2.2.2.2.2.2.2.2.2.2.1 v1_23 t0_23 s0_23
          else
            J64 1 s0_23.2.2.2.2.2.2.2.2.2.2.2.2.2.1 v1_23 t0_23 s0_23
        ) fun J49 =>
      xjoin (fun (v1_27 : Int32) (s0_27 : MS) =>
          J49 0 v1_27 s0_27
        ) fun J48 =>
      if q21.2.2.2.2.2.2.2.2.2.2.2.2.2.2.1 = 0 then
        xcall (fX13_here N q21) fun q29 =>
        if q29 = 59 then
          J49 1 x22 q21
        else
          J48 x22 q21
      else
        J48 x22 q21
def fX13_runCommands (N : Nat)  (s0 : MS) : Option (Int32 × MS) :=
  xjoin (fun (v1_1 : Int32) (s0_1 : MS) =>
      xjoin (fun (t0_2 : Int32) (v1_2 : Int32) (s0_2 : MS) =>
          xnz (xbit t0_2) <|
          if t0_2 = 0 then
            xcall (fX13_begin N ((Ms14 (Ms7 s0_2 0) t0_2))) fun q5 =>
            xjoin (fun (v1_6 : Int32) (s0_6 : MS) =>
                xcall (fX13_done N v1_6 s0_6) fun q7 =>
                xcall (fX13_kept N q7.1 q7.2) fun q8 =>
                some (q8.1, q8.2)
              ) fun K174 =>
            fX13_runCommands_L130 N K174 N v1_2 0 q5
          else
            xcall (fX13_fails N 1 ((Ms14 (Ms8 (Ms7 s0_2 0) s0_2.2.2.2.2.2.2.2.2.2.2.2.2.2.1) t0_2))) fun q15 =>
            some (q15.1, q15.2)
        ) fun J95 =>
      xjoin (fun (v1_16 : Int32) (s0_16 : MS) =>
          J95 1 v1_16 s0_16
        ) fun J90 =>
      if s0_1.2.2.2.2.2.2.2.2.2.2.2.2.2.2.1 = 0 then
        if s0_1.2.2.2.2.2.2.2.1 ≤ s0_1.2.2.2.2.2.2.2.2.2.2.2.2.2.1 then
          J95 0 v1_1 s0_1
        else
          J90 v1_1 s0_1
      else
        J90 v1_1 s0_1
    ) fun K71 =>
  fX13_runCommands_L14 N K71 N 0 1 ((Ms14 (Ms13 s0 0) 0))
set_option maxRecDepth 100000 in
set_option maxHeartbeats 4000000 in
theorem kX13_runCommands (l : Launch) (D : va_G) (cA : Nat → ClassId) (h0 : Nat → Nat) (sz N : Nat)  (s0 : MS) (q : Int32 × MS) (h : fX13_runCommands N s0 = some q) : xM l yX13_runCommands cX13_runCommands 5 (some .int) ({ frames := 6, cells := 0, slots := 0, locals := 128 }) D cA (MW cA h0 s0) sz [.ref (h0 0)] (some (.int q.1)) (MW cA h0 q.2) := by
  generalize erm : ({ frames := 6, cells := 0, slots := 0, locals := 128 } : Room) = rm
  refine xMet (by decide) (Nat.le_of_ble_eq_true rfl) ?_
  intro p e s m below meth c hx hb hr hlocks hml hts hown hin hK hP A eA hD hS hA hsz ls hl
  have hl : lv_has ls 5 [(0, .ref (h0 0))] := hl
  clear eA
  rw [fX13_runCommands] at h
  refine lv_aload_n hx hb dX13_runCommands_0 rfl (lv_at hl 0 rfl) ?_
  refine lv_iconst (v := 0) hx hb dX13_runCommands_1 (by decide) ?_
  refine va_put (D := D) (ci := 12) (v := .int 0) (ty := .int) (C := RX13) (T := TX13) (N := 16) hx hb hts iX13 tyX13 tyX13_ok nmX13 hown hK hP hD hS 0 rfl rfl 13 (by decide) (hts _ qfl_X13_199) (fun _ h9 => h9) rfl (by decide +kernel) rfl rfl (Nat.le_of_ble_eq_true rfl) dX13_runCommands_2 (fun H locs hP hD hS => ?_)
  have hP : va_P D vwCl (MW cA h0 ((Ms13 s0 0))) H := hP
  have hD : va_D A (MW cA h0 ((Ms13 s0 0))) := hD
  refine lv_aload_n hx hb dX13_runCommands_5 rfl (lv_at hl 0 rfl) ?_
  refine lv_iconst (v := 0) hx hb dX13_runCommands_6 (by decide) ?_
  refine va_put (D := D) (ci := 12) (v := .int 0) (ty := .boolean) (C := RX13) (T := TX13) (N := 16) hx hb hts iX13 tyX13 tyX13_ok nmX13 hown hK hP hD hS 0 rfl rfl 14 (by decide) (hts _ qfl_X13_202) (fun _ h9 => h9) rfl (by decide +kernel) (by decide) (by decide) (Nat.le_of_ble_eq_true rfl) dX13_runCommands_7 (fun H locs hP hD hS => ?_)
  have hP : va_P D vwCl (MW cA h0 ((Ms14 (Ms13 s0 0) 0))) H := hP
  have hD : va_D A (MW cA h0 ((Ms14 (Ms13 s0 0) 0))) := hD
  refine lv_iconst (v := 0) hx hb dX13_runCommands_10 (by decide) ?_
  refine lv_istore_n (lv' := [(1, .int 0), (0, .ref (h0 0))]) hx hb dX13_runCommands_11 rfl hl (by decide) rfl (fun ls hl => ?_)
  refine lv_iconst (v := 1) hx hb dX13_runCommands_12 (by decide) ?_
  refine lv_istore_n (lv' := [(2, .int 1), (1, .int 0), (0, .ref (h0 0))]) hx hb dX13_runCommands_13 rfl hl (by decide) rfl (fun ls hl => ?_)
  obtain ⟨K71, eK71, h⟩ := x_join h
  have hJ_K71 : ∀ (v1_1 : Int32) (s0_1 : MS) (H : Heap) (locs : List Loc), va_P D vwCl (MW cA h0 s0_1) H → va_D A (MW cA h0 s0_1) → va_S A s.heap H locs → ∀ ls : Array Slot, lv_has ls 5 [(0, .ref (h0 0)), (1, .int v1_1)] → K71 v1_1 s0_1 = some q → W p l e rm s m ([.ref (h0 0)] : List Value).toArray below meth c H locs 0 0 (MQ below (xQ D cA A (MW cA h0 q.2) (some (.int q.1))) ([.ref (h0 0)] : List Value).toArray s 0 0 A) (F0 m 71 ls []) := by
    clear h hP hD hS hl
    intro v1_1 s0_1 H locs hP hD hS ls hl h
    rw [eK71] at h
    refine lv_aload_n hx hb dX13_runCommands_71 rfl (lv_at hl 0 rfl) ?_
    refine lv_aload_n hx hb dX13_runCommands_72 rfl (lv_at hl 0 rfl) ?_
    refine va_get (D := D) (ci := 12) (v := .int s0_1.2.2.2.2.2.2.2.2.2.2.2.2.2.2.1) (C := RX13) (T := TX13) (N := 16) hx hb hts iX13 hown hK hP 0 rfl rfl 14 (by decide) (hts _ qfl_X13_202) (fun _ h9 => h9) rfl dX13_runCommands_73 ?_
    obtain ⟨J95, eJ95, h⟩ := x_join h
    have hJ_J95 : ∀ (t0_2 : Int32) (v1_2 : Int32) (s0_2 : MS) (H : Heap) (locs : List Loc), va_P D vwCl (MW cA h0 s0_2) H → va_D A (MW cA h0 s0_2) → va_S A s.heap H locs → ∀ ls : Array Slot, lv_has ls 5 [(0, .ref (h0 0)), (1, .int v1_2)] → J95 t0_2 v1_2 s0_2 = some q → W p l e rm s m ([.ref (h0 0)] : List Value).toArray below meth c H locs 0 0 (MQ below (xQ D cA A (MW cA h0 q.2) (some (.int q.1))) ([.ref (h0 0)] : List Value).toArray s 0 0 A) (F0 m 95 ls [.int t0_2, .ref (h0 0)]) := by
      clear h hP hD hS hl
      intro t0_2 v1_2 s0_2 H locs hP hD hS ls hl h
      rw [eJ95] at h
      obtain ⟨z3, h⟩ := x_nz h
      refine va_put (D := D) (ci := 12) (v := .int t0_2) (ty := .boolean) (C := RX13) (T := TX13) (N := 16) hx hb hts iX13 tyX13 tyX13_ok nmX13 hown hK hP hD hS 0 rfl rfl 14 (by decide) (hts _ qfl_X13_202) (fun _ h9 => h9) rfl (by decide +kernel) (xbit_n z3) (xbit_f z3) (Nat.le_of_ble_eq_true rfl) dX13_runCommands_95 (fun H locs hP hD hS => ?_)
      have hP : va_P D vwCl (MW cA h0 ((Ms14 s0_2 t0_2))) H := hP
      have hD : va_D A (MW cA h0 ((Ms14 s0_2 t0_2))) := hD
      refine lv_aload_n hx hb dX13_runCommands_98 rfl (lv_at hl 0 rfl) ?_
      refine lv_iconst (v := 0) hx hb dX13_runCommands_99 (by decide) ?_
      refine va_put (D := D) (ci := 12) (v := .int 0) (ty := .int) (C := RX13) (T := TX13) (N := 16) hx hb hts iX13 tyX13 tyX13_ok nmX13 hown hK hP hD hS 0 rfl rfl 7 (by decide) (hts _ qfl_X13_196) (fun _ h9 => h9) rfl (by decide +kernel) rfl rfl (Nat.le_of_ble_eq_true rfl) dX13_runCommands_100 (fun H locs hP hD hS => ?_)
      have hP : va_P D vwCl (MW cA h0 ((Ms14 (Ms7 s0_2 0) t0_2))) H := hP
      have hD : va_D A (MW cA h0 ((Ms14 (Ms7 s0_2 0) t0_2))) := hD
      refine lv_aload_n hx hb dX13_runCommands_103 rfl (lv_at hl 0 rfl) ?_
      refine va_get (D := D) (ci := 12) (v := .int t0_2) (C := RX13) (T := TX13) (N := 16) hx hb hts iX13 hown hK hP 0 rfl rfl 14 (by decide) (hts _ qfl_X13_202) (fun _ h9 => h9) rfl dX13_runCommands_104 ?_
      refine lv_if_eq (tgt := 124) hx hb dX13_runCommands_107 (by decide) (fun c4 => ?_) (fun c4 => ?_)
      · have h := x_t h c4
        refine lv_aload_n hx hb dX13_runCommands_124 rfl (lv_at hl 0 rfl) ?_
        obtain ⟨q5, c5, h⟩ := x_call h
        refine xCall (w2 := MW cA h0 q5) (xRunV (n := 0) (As := []) (rest := []) ⟨hx, hb, hml, hown, hts⟩ (kX13_begin l D cA h0 _ N ((Ms14 (Ms7 s0_2 0) t0_2)) q5 c5) qco_X13_begin qml_X13_63 qin_X13_begin qse_X13_begin qini_X13 (by decide +kernel) (by rw [← erm]; rfl) hK hP hD [0, 1, 2, 3, 4, 5, 6, 7] rfl rfl (q0 := 0) rfl rfl rfl rfl rfl hl.1 rfl (lv_room (Nat.le_of_ble_eq_true rfl)) dX13_runCommands_125 ⟨Nat.zero_le _, Nat.zero_le _⟩) hP hD hS hA [0, 1, 2, 3, 4, 5, 6, 7] [] [0, 1, 2, 3, 4, 5, 6, 7] rfl (wr := []) rfl rfl rfl rfl rfl (fun H locs hP hD hS => ?_)
        refine lv_iconst (v := 0) hx hb dX13_runCommands_128 (by decide) ?_
        refine lv_istore_n (lv' := [(3, .int 0), (0, .ref (h0 0)), (1, .int v1_2)]) hx hb dX13_runCommands_129 rfl hl (by decide) rfl (fun ls hl => ?_)
        obtain ⟨K174, eK174, h⟩ := x_join h
        have hJ_K174 : ∀ (v1_6 : Int32) (s0_6 : MS) (H : Heap) (locs : List Loc), va_P D vwCl (MW cA h0 s0_6) H → va_D A (MW cA h0 s0_6) → va_S A s.heap H locs → ∀ ls : Array Slot, lv_has ls 5 [(0, .ref (h0 0)), (1, .int v1_6)] → K174 v1_6 s0_6 = some q → W p l e rm s m ([.ref (h0 0)] : List Value).toArray below meth c H locs 0 0 (MQ below (xQ D cA A (MW cA h0 q.2) (some (.int q.1))) ([.ref (h0 0)] : List Value).toArray s 0 0 A) (F0 m 174 ls []) := by
          clear h hP hD hS hl
          intro v1_6 s0_6 H locs hP hD hS ls hl h
          rw [eK174] at h
          refine lv_aload_n hx hb dX13_runCommands_174 rfl (lv_at hl 0 rfl) ?_
          refine lv_aload_n hx hb dX13_runCommands_175 rfl (lv_at hl 0 rfl) ?_
          refine lv_iload_n hx hb dX13_runCommands_176 rfl (lv_at hl 1 rfl) ?_
          obtain ⟨q7, c7, h⟩ := x_call h
          refine xCall (w2 := MW cA h0 q7.2) (xRunV (n := 1) (As := [.int v1_6]) (rest := [.ref (h0 0)]) ⟨hx, hb, hml, hown, hts⟩ (kX13_done l D cA h0 _ N v1_6 s0_6 q7 c7) qco_X13_done qml_X13_60 qin_X13_done qse_X13_done qini_X13 (by decide +kernel) (by rw [← erm]; rfl) hK hP hD [0, 1, 2, 3, 4, 5, 6, 7] rfl rfl (q0 := 0) rfl rfl rfl rfl rfl hl.1 rfl (lv_room (Nat.le_of_ble_eq_true rfl)) dX13_runCommands_177 ⟨Nat.zero_le _, Nat.zero_le _⟩) hP hD hS hA [0, 1, 2, 3, 4, 5, 6, 7] [] [0, 1, 2, 3, 4, 5, 6, 7] rfl (wr := []) rfl rfl rfl rfl rfl (fun H locs hP hD hS => ?_)
          obtain ⟨q8, c8, h⟩ := x_call h
          refine xCall (w2 := MW cA h0 q8.2) (xRunV (n := 1) (As := [.int q7.1]) (rest := []) ⟨hx, hb, hml, hown, hts⟩ (kX13_kept l D cA h0 _ N q7.1 q7.2 q8 c8) qco_X13_kept qml_X13_74 qin_X13_kept qse_X13_kept qini_X13 (by decide +kernel) (by rw [← erm]; rfl) hK hP hD [0, 1, 2, 3, 4, 5, 6, 7] rfl rfl (q0 := 0) rfl rfl rfl rfl rfl hl.1 rfl (lv_room (Nat.le_of_ble_eq_true rfl)) dX13_runCommands_180 ⟨Nat.zero_le _, Nat.zero_le _⟩) hP hD hS hA [0, 1, 2, 3, 4, 5, 6, 7] [] [0, 1, 2, 3, 4, 5, 6, 7] rfl (wr := []) rfl rfl rfl rfl rfl (fun H locs hP hD hS => ?_)
          have h := Option.some.inj h
          subst h
          exact xIret hx hb hr hlocks hP hK hD hS dX13_runCommands_183
        have hL130 : ∀ (n : Nat) (v1_9 : Int32) (v3_9 : Int32) (s0_9 : MS) (H : Heap) (locs : List Loc), va_P D vwCl (MW cA h0 s0_9) H → va_D A (MW cA h0 s0_9) → va_S A s.heap H locs → ∀ ls : Array Slot, lv_has ls 5 [(0, .ref (h0 0)), (1, .int v1_9), (3, .int v3_9)] → fX13_runCommands_L130 N K174 n v1_9 v3_9 s0_9 = some q → W p l e rm s m ([.ref (h0 0)] : List Value).toArray below meth c H locs 0 0 (MQ below (xQ D cA A (MW cA h0 q.2) (some (.int q.1))) ([.ref (h0 0)] : List Value).toArray s 0 0 A) (F0 m 130 ls []) := by
          clear h hP hD hS hl
          intro n
          induction n with
          | zero => intro v1_9 v3_9 s0_9 H locs hP hD hS ls hl h; rw [fX13_runCommands_L130] at h; cases h
          | succ n ih =>
            intro v1_9 v3_9 s0_9 H locs hP hD hS ls hl h
            rw [fX13_runCommands_L130] at h
            refine lv_iload_n hx hb dX13_runCommands_130 rfl (lv_at hl 2 rfl) ?_
            refine lv_iload_n hx hb dX13_runCommands_131 rfl (lv_at hl 1 rfl) ?_
            refine lv_icmp_ge (tgt := 174) hx hb dX13_runCommands_132 (by decide) (fun c10 => ?_) (fun c10 => ?_)
            · have h := x_t h c10
              exact hJ_K174 v1_9 s0_9 _ _ hP hD hS _ (lv_sub hl [0, 1] rfl) h
            · have h := x_f h c10
              refine lv_aload_n hx hb dX13_runCommands_135 rfl (lv_at hl 0 rfl) ?_
              refine lv_iconst (v := 4) hx hb dX13_runCommands_136 (by decide) ?_
              refine lv_iload_n hx hb dX13_runCommands_137 rfl (lv_at hl 2 rfl) ?_
              refine lv_imul hx hb dX13_runCommands_138 ?_
              obtain ⟨q11, c11, h⟩ := x_call h
              refine xCall (w2 := MW cA h0 q11.2) (xRunV (n := 1) (As := [.int (4 * v3_9)]) (rest := []) ⟨hx, hb, hml, hown, hts⟩ (kX13_carriesOut l D cA h0 _ N (4 * v3_9) s0_9 q11 c11) qco_X13_carriesOut qml_X13_237 qin_X13_carriesOut qse_X13_carriesOut qini_X13 (by decide +kernel) (by rw [← erm]; rfl) hK hP hD [0, 1, 2, 3, 4, 5, 6, 7] rfl rfl (q0 := 0) rfl rfl rfl rfl rfl hl.1 rfl (lv_room (Nat.le_of_ble_eq_true rfl)) dX13_runCommands_139 ⟨Nat.zero_le _, Nat.zero_le _⟩) hP hD hS hA [0, 1, 2, 3, 4, 5, 6, 7] [] [0, 1, 2, 3, 4, 5, 6, 7] rfl (wr := []) rfl rfl rfl rfl rfl (fun H locs hP hD hS => ?_)
              refine lv_istore (lv' := [(4, .int q11.1), (0, .ref (h0 0)), (1, .int v1_9), (3, .int v3_9)]) hx hb dX13_runCommands_142 hl (by decide) rfl (fun ls hl => ?_)
              refine lv_aload_n hx hb dX13_runCommands_144 rfl (lv_at hl 1 rfl) ?_
              refine va_get (D := D) (ci := 12) (v := .int q11.2.2.2.2.2.2.2.2.2.2.2.2.2.1) (C := RX13) (T := TX13) (N := 16) hx hb hts iX13 hown hK hP 0 rfl rfl 12 (by decide) (hts _ qfl_X13_39) (fun _ h9 => h9) rfl dX13_runCommands_145 ?_
              refine lv_if_eq (tgt := 168) hx hb dX13_runCommands_148 (by decide) (fun c12 => ?_) (fun c12 => ?_)
              · have h := x_t h c12
                obtain ⟨x13, ex13⟩ : ∃ y : Int32, y = v3_9 + (1) := ⟨_, rfl⟩
                have h := x_let h ex13
                refine lv_iinc (v := x13) (lv' := [(3, .int x13), (4, .int q11.1), (0, .ref (h0 0)), (1, .int v1_9)]) hx hb dX13_runCommands_168 hl (k := 3) rfl (by rw [ex13]; rfl) (by decide) rfl (fun ls hl => ?_)
                refine lv_goto (tgt := 130) hx hb dX13_runCommands_171 (by decide) ?_
                exact ih v1_9 x13 q11.2 _ _ hP hD hS _ (lv_sub hl [2, 3, 0] rfl) h
              · have h := x_f h c12
                refine lv_aload_n hx hb dX13_runCommands_151 rfl (lv_at hl 1 rfl) ?_
                refine lv_iload_n hx hb dX13_runCommands_152 rfl (lv_at hl 3 rfl) ?_
                refine va_put (D := D) (ci := 12) (v := .int v3_9) (ty := .int) (C := RX13) (T := TX13) (N := 16) hx hb hts iX13 tyX13 tyX13_ok nmX13 hown hK hP hD hS 0 rfl rfl 9 (by decide) (hts _ qfl_X13_30) (fun _ h9 => h9) rfl (by decide +kernel) rfl rfl (Nat.le_of_ble_eq_true rfl) dX13_runCommands_153 (fun H locs hP hD hS => ?_)
                have hP : va_P D vwCl (MW cA h0 ((Ms9 q11.2 v3_9))) H := hP
                have hD : va_D A (MW cA h0 ((Ms9 q11.2 v3_9))) := hD
                refine lv_aload_n hx hb dX13_runCommands_156 rfl (lv_at hl 1 rfl) ?_
                refine lv_iconst (v := 2) hx hb dX13_runCommands_157 (by decide) ?_
                refine va_put (D := D) (ci := 12) (v := .int 2) (ty := .int) (C := RX13) (T := TX13) (N := 16) hx hb hts iX13 tyX13 tyX13_ok nmX13 hown hK hP hD hS 0 rfl rfl 12 (by decide) (hts _ qfl_X13_39) (fun _ h9 => h9) rfl (by decide +kernel) rfl rfl (Nat.le_of_ble_eq_true rfl) dX13_runCommands_158 (fun H locs hP hD hS => ?_)
                have hP : va_P D vwCl (MW cA h0 ((Ms12 (Ms9 q11.2 v3_9) 2))) H := hP
                have hD : va_D A (MW cA h0 ((Ms12 (Ms9 q11.2 v3_9) 2))) := hD
                refine lv_aload_n hx hb dX13_runCommands_161 rfl (lv_at hl 1 rfl) ?_
                refine lv_iload hx hb dX13_runCommands_162 (lv_at hl 0 rfl) ?_
                obtain ⟨q14, c14, h⟩ := x_call h
                refine xCall (w2 := MW cA h0 q14.2) (xRunV (n := 1) (As := [.int q11.1]) (rest := []) ⟨hx, hb, hml, hown, hts⟩ (kX13_kept l D cA h0 _ N q11.1 ((Ms12 (Ms9 q11.2 v3_9) 2)) q14 c14) qco_X13_kept qml_X13_74 qin_X13_kept qse_X13_kept qini_X13 (by decide +kernel) (by rw [← erm]; rfl) hK hP hD [0, 1, 2, 3, 4, 5, 6, 7] rfl rfl (q0 := 0) rfl rfl rfl rfl rfl hl.1 rfl (lv_room (Nat.le_of_ble_eq_true rfl)) dX13_runCommands_164 ⟨Nat.zero_le _, Nat.zero_le _⟩) hP hD hS hA [0, 1, 2, 3, 4, 5, 6, 7] [] [0, 1, 2, 3, 4, 5, 6, 7] rfl (wr := []) rfl rfl rfl rfl rfl (fun H locs hP hD hS => ?_)
                have h := Option.some.inj h
                subst h
                exact xIret hx hb hr hlocks hP hK hD hS dX13_runCommands_167
        exact hL130 N v1_2 0 q5 _ _ hP hD hS _ (lv_sub hl [1, 2, 0] rfl) h
      · have h := x_f h c4
        refine lv_aload_n hx hb dX13_runCommands_110 rfl (lv_at hl 0 rfl) ?_
        refine lv_aload_n hx hb dX13_runCommands_111 rfl (lv_at hl 0 rfl) ?_
        refine va_get (D := D) (ci := 12) (v := .int s0_2.2.2.2.2.2.2.2.2.2.2.2.2.2.1) (C := RX13) (T := TX13) (N := 16) hx hb hts iX13 hown hK hP 0 rfl rfl 13 (by decide) (hts _ qfl_X13_199) (fun _ h9 => h9) rfl dX13_runCommands_112 ?_
        refine va_put (D := D) (ci := 12) (v := .int s0_2.2.2.2.2.2.2.2.2.2.2.2.2.2.1) (ty := .int) (C := RX13) (T := TX13) (N := 16) hx hb hts iX13 tyX13 tyX13_ok nmX13 hown hK hP hD hS 0 rfl rfl 8 (by decide) (hts _ qfl_X13_26) (fun _ h9 => h9) rfl (by decide +kernel) rfl rfl (Nat.le_of_ble_eq_true rfl) dX13_runCommands_115 (fun H locs hP hD hS => ?_)
        have hP : va_P D vwCl (MW cA h0 ((Ms14 (Ms8 (Ms7 s0_2 0) s0_2.2.2.2.2.2.2.2.2.2.2.2.2.2.1) t0_2))) H := hP
        have hD : va_D A (MW cA h0 ((Ms14 (Ms8 (Ms7 s0_2 0) s0_2.2.2.2.2.2.2.2.2.2.2.2.2.2.1) t0_2))) := hD
        refine lv_aload_n hx hb dX13_runCommands_118 rfl (lv_at hl 0 rfl) ?_
        refine lv_iconst (v := 1) hx hb dX13_runCommands_119 (by decide) ?_
        obtain ⟨q15, c15, h⟩ := x_call h
        refine xCall (w2 := MW cA h0 q15.2) (xRunV (n := 1) (As := [.int 1]) (rest := []) ⟨hx, hb, hml, hown, hts⟩ (kX13_fails l D cA h0 _ N 1 ((Ms14 (Ms8 (Ms7 s0_2 0) s0_2.2.2.2.2.2.2.2.2.2.2.2.2.2.1) t0_2)) q15 c15) qco_X13_fails qml_X13_57 qin_X13_fails qse_X13_fails qini_X13 (by decide +kernel) (by rw [← erm]; rfl) hK hP hD [0, 1, 2, 3, 4, 5, 6, 7] rfl rfl (q0 := 0) rfl rfl rfl rfl rfl hl.1 rfl (lv_room (Nat.le_of_ble_eq_true rfl)) dX13_runCommands_120 ⟨Nat.zero_le _, Nat.zero_le _⟩) hP hD hS hA [0, 1, 2, 3, 4, 5, 6, 7] [] [0, 1, 2, 3, 4, 5, 6, 7] rfl (wr := []) rfl rfl rfl rfl rfl (fun H locs hP hD hS => ?_)
        have h := Option.some.inj h
        subst h
        exact xIret hx hb hr hlocks hP hK hD hS dX13_runCommands_123
    obtain ⟨J90, eJ90, h⟩ := x_join h
    have hJ_J90 : ∀ (v1_16 : Int32) (s0_16 : MS) (H : Heap) (locs : List Loc), va_P D vwCl (MW cA h0 s0_16) H → va_D A (MW cA h0 s0_16) → va_S A s.heap H locs → ∀ ls : Array Slot, lv_has ls 5 [(0, .ref (h0 0)), (1, .int v1_16)] → J90 v1_16 s0_16 = some q → W p l e rm s m ([.ref (h0 0)] : List Value).toArray below meth c H locs 0 0 (MQ below (xQ D cA A (MW cA h0 q.2) (some (.int q.1))) ([.ref (h0 0)] : List Value).toArray s 0 0 A) (F0 m 90 ls [.ref (h0 0)]) := by
      clear h hP hD hS hl
      intro v1_16 s0_16 H locs hP hD hS ls hl h
      rw [eJ90] at h
      refine lv_iconst (v := 1) hx hb dX13_runCommands_90 (by decide) ?_
      refine lv_goto (tgt := 95) hx hb dX13_runCommands_91 (by decide) ?_
      exact hJ_J95 1 v1_16 s0_16 _ _ hP hD hS _ (lv_sub hl [0, 1] rfl) h
    refine lv_if_ne (tgt := 90) hx hb dX13_runCommands_76 (by decide) (fun c17 => ?_) (fun c17 => ?_)
    · have h := x_f h c17
      exact hJ_J90 v1_1 s0_1 _ _ hP hD hS _ (lv_sub hl [0, 1] rfl) h
    · have h := x_t h c17
      refine lv_aload_n hx hb dX13_runCommands_79 rfl (lv_at hl 0 rfl) ?_
      refine va_get (D := D) (ci := 12) (v := .int s0_1.2.2.2.2.2.2.2.2.2.2.2.2.2.1) (C := RX13) (T := TX13) (N := 16) hx hb hts iX13 hown hK hP 0 rfl rfl 13 (by decide) (hts _ qfl_X13_199) (fun _ h9 => h9) rfl dX13_runCommands_80 ?_
      refine lv_aload_n hx hb dX13_runCommands_83 rfl (lv_at hl 0 rfl) ?_
      refine va_get (D := D) (ci := 12) (v := .int s0_1.2.2.2.2.2.2.2.1) (C := RX13) (T := TX13) (N := 16) hx hb hts iX13 hown hK hP 0 rfl rfl 7 (by decide) (hts _ qfl_X13_196) (fun _ h9 => h9) rfl dX13_runCommands_84 ?_
      refine lv_icmp_ge (tgt := 94) hx hb dX13_runCommands_87 (by decide) (fun c18 => ?_) (fun c18 => ?_)
      · have h := x_t h c18
        refine lv_iconst (v := 0) hx hb dX13_runCommands_94 (by decide) ?_
        exact hJ_J95 0 v1_1 s0_1 _ _ hP hD hS _ (lv_sub hl [0, 1] rfl) h
      · have h := x_f h c18
        exact hJ_J90 v1_1 s0_1 _ _ hP hD hS _ (lv_sub hl [0, 1] rfl) h
  have hL14 : ∀ (n : Nat) (v1_19 : Int32) (v2_19 : Int32) (s0_19 : MS) (H : Heap) (locs : List Loc), va_P D vwCl (MW cA h0 s0_19) H → va_D A (MW cA h0 s0_19) → va_S A s.heap H locs → ∀ ls : Array Slot, lv_has ls 5 [(0, .ref (h0 0)), (1, .int v1_19), (2, .int v2_19)] → fX13_runCommands_L14 N K71 n v1_19 v2_19 s0_19 = some q → W p l e rm s m ([.ref (h0 0)] : List Value).toArray below meth c H locs 0 0 (MQ below (xQ D cA A (MW cA h0 q.2) (some (.int q.1))) ([.ref (h0 0)] : List Value).toArray s 0 0 A) (F0 m 14 ls []) := by
    clear h hP hD hS hl
    intro n
    induction n with
    | zero => intro v1_19 v2_19 s0_19 H locs hP hD hS ls hl h; rw [fX13_runCommands_L14] at h; cases h
    | succ n ih =>
      intro v1_19 v2_19 s0_19 H locs hP hD hS ls hl h
      rw [fX13_runCommands_L14] at h
      refine lv_iload_n hx hb dX13_runCommands_14 rfl (lv_at hl 2 rfl) ?_
      refine lv_if_eq (tgt := 71) hx hb dX13_runCommands_15 (by decide) (fun c20 => ?_) (fun c20 => ?_)
      · have h := x_t h c20
        exact hJ_K71 v1_19 s0_19 _ _ hP hD hS _ (lv_sub hl [0, 1] rfl) h
      · have h := x_f h c20
        refine lv_aload_n hx hb dX13_runCommands_18 rfl (lv_at hl 0 rfl) ?_
        refine lv_iconst (v := 4) hx hb dX13_runCommands_19 (by decide) ?_
        refine lv_iload_n hx hb dX13_runCommands_20 rfl (lv_at hl 1 rfl) ?_
        refine lv_imul hx hb dX13_runCommands_21 ?_
        obtain ⟨q21, c21, h⟩ := x_call h
        refine xCall (w2 := MW cA h0 q21) (xRunV (n := 1) (As := [.int (4 * v1_19)]) (rest := []) ⟨hx, hb, hml, hown, hts⟩ (kX13_parsesCommand l D cA h0 _ N (4 * v1_19) s0_19 q21 c21) qco_X13_parsesCommand qml_X13_234 qin_X13_parsesCommand qse_X13_parsesCommand qini_X13 (by decide +kernel) (by rw [← erm]; rfl) hK hP hD [0, 1, 2, 3, 4, 5, 6, 7] rfl rfl (q0 := 0) rfl rfl rfl rfl rfl hl.1 rfl (lv_room (Nat.le_of_ble_eq_true rfl)) dX13_runCommands_22 ⟨Nat.zero_le _, Nat.zero_le _⟩) hP hD hS hA [0, 1, 2, 3, 4, 5, 6, 7] [] [0, 1, 2, 3, 4, 5, 6, 7] rfl (wr := []) rfl rfl rfl rfl rfl (fun H locs hP hD hS => ?_)
        obtain ⟨x22, ex22⟩ : ∃ y : Int32, y = v1_19 + (1) := ⟨_, rfl⟩
        have h := x_let h ex22
        refine lv_iinc (v := x22) (lv' := [(1, .int x22), (0, .ref (h0 0)), (2, .int v2_19)]) hx hb dX13_runCommands_25 hl (k := 1) rfl (by rw [ex22]; rfl) (by decide) rfl (fun ls hl => ?_)
        refine lv_aload_n hx hb dX13_runCommands_28 rfl (lv_at hl 1 rfl) ?_
        refine va_get (D := D) (ci := 12) (v := .int q21.2.2.2.2.2.2.2.2.2.2.2.2.2.2.1) (C := RX13) (T := TX13) (N := 16) hx hb hts iX13 hown hK hP 0 rfl rfl 14 (by decide) (hts _ qfl_X13_202) (fun _ h9 => h9) rfl dX13_runCommands_29 ?_
        obtain ⟨J49, eJ49, h⟩ := x_join h
        have hJ_J49 : ∀ (t0_23 : Int32) (v1_23 : Int32) (s0_23 : MS) (H : Heap) (locs : List Loc), va_P D vwCl (MW cA h0 s0_23) H → va_D A (MW cA h0 s0_23) → va_S A s.heap H locs → ∀ ls : Array Slot, lv_has ls 5 [(0, .ref (h0 0)), (1, .int v1_23)] → J49 t0_23 v1_23 s0_23 = some q → W p l e rm s m ([.ref (h0 0)] : List Value).toArray below meth c H locs 0 0 (MQ below (xQ D cA A (MW cA h0 q.2) (some (.int q.1))) ([.ref (h0 0)] : List Value).toArray s 0 0 A) (F0 m 49 ls [.int t0_23]) := by
          clear h hP hD hS hl
          intro t0_23 v1_23 s0_23 H locs hP hD hS ls hl h
          rw [eJ49] at h
          refine lv_istore_n (lv' := [(2, .int t0_23), (0, .ref (h0 0)), (1, .int v1_23)]) hx hb dX13_runCommands_49 rfl hl (by decide) rfl (fun ls hl => ?_)
          refine lv_aload_n hx hb dX13_runCommands_50 rfl (lv_at hl 1 rfl) ?_
          refine lv_dup hx hb dX13_runCommands_51 rfl ?_
          refine va_get (D := D) (ci := 12) (v := .int s0_23.2.2.2.2.2.2.2.2.2.2.2.2.2.1) (C := RX13) (T := TX13) (N := 16) hx hb hts iX13 hown hK hP 0 rfl rfl 13 (by decide) (hts _ qfl_X13_199) (fun _ h9 => h9) rfl dX13_runCommands_52 ?_
          refine lv_iload_n hx hb dX13_runCommands_55 rfl (lv_at hl 0 rfl) ?_
          obtain ⟨J64, eJ64, h⟩ := x_join h
          have hJ_J64 : ∀ (t0_24 : Int32) (t1_24 : Int32) (v1_24 : Int32) (v2_24 : Int32) (s0_24 : MS) (H : Heap) (locs : List Loc), va_P D vwCl (MW cA h0 s0_24) H → va_D A (MW cA h0 s0_24) → va_S A s.heap H locs → ∀ ls : Array Slot, lv_has ls 5 [(0, .ref (h0 0)), (1, .int v1_24), (2, .int v2_24)] → J64 t0_24 t1_24 v1_24 v2_24 s0_24 = some q → W p l e rm s m ([.ref (h0 0)] : List Value).toArray below meth c H locs 0 0 (MQ below (xQ D cA A (MW cA h0 q.2) (some (.int q.1))) ([.ref (h0 0)] : List Value).toArray s 0 0 A) (F0 m 64 ls [.int t0_24, .int t1_24, .ref (h0 0)]) := by
            clear h hP hD hS hl
            intro t0_24 t1_24 v1_24 v2_24 s0_24 H locs hP hD hS ls hl h
            rw [eJ64] at h
            refine lv_iadd hx hb dX13_runCommands_64 ?_
            refine lv_topi (fun x25 ex25 => ?_)
            have h := x_let h ex25
            refine va_put (D := D) (ci := 12) (v := .int x25) (ty := .int) (C := RX13) (T := TX13) (N := 16) hx hb hts iX13 tyX13 tyX13_ok nmX13 hown hK hP hD hS 0 rfl rfl 13 (by decide) (hts _ qfl_X13_199) (fun _ h9 => h9) rfl (by decide +kernel) rfl rfl (Nat.le_of_ble_eq_true rfl) dX13_runCommands_65 (fun H locs hP hD hS => ?_)
            have hP : va_P D vwCl (MW cA h0 ((Ms13 s0_24 x25))) H := hP
            have hD : va_D A (MW cA h0 ((Ms13 s0_24 x25))) := hD
            refine lv_goto (tgt := 14) hx hb dX13_runCommands_68 (by decide) ?_
            exact ih v1_24 v2_24 ((Ms13 s0_24 x25)) _ _ hP hD hS _ (lv_sub hl [0, 1, 2] rfl) h
          refine lv_if_eq (tgt := 63) hx hb dX13_runCommands_56 (by decide) (fun c26 => ?_) (fun c26 => ?_)
          · have h := x_t h c26
            refine lv_iconst (v := 0) hx hb dX13_runCommands_63 (by decide) ?_
            exact hJ_J64 0 s0_23.2.2.2.2.2.2.2.2.2.2.2.2.2.1 v1_23 t0_23 s0_23 _ _ hP hD hS _ (lv_sub hl [1, 2, 0] rfl) h
          · have h := x_f h c26
            refine lv_iconst (v := 1) hx hb dX13_runCommands_59 (by decide) ?_
            refine lv_goto (tgt := 64) hx hb dX13_runCommands_60 (by decide) ?_
            exact hJ_J64 1 s0_23.2.2.2.2.2.2.2.2.2.2.2.2.2.1 v1_23 t0_23 s0_23 _ _ hP hD hS _ (lv_sub hl [1, 2, 0] rfl) h
        obtain ⟨J48, eJ48, h⟩ := x_join h
        have hJ_J48 : ∀ (v1_27 : Int32) (s0_27 : MS) (H : Heap) (locs : List Loc), va_P D vwCl (MW cA h0 s0_27) H → va_D A (MW cA h0 s0_27) → va_S A s.heap H locs → ∀ ls : Array Slot, lv_has ls 5 [(0, .ref (h0 0)), (1, .int v1_27)] → J48 v1_27 s0_27 = some q → W p l e rm s m ([.ref (h0 0)] : List Value).toArray below meth c H locs 0 0 (MQ below (xQ D cA A (MW cA h0 q.2) (some (.int q.1))) ([.ref (h0 0)] : List Value).toArray s 0 0 A) (F0 m 48 ls []) := by
          clear h hP hD hS hl
          intro v1_27 s0_27 H locs hP hD hS ls hl h
          rw [eJ48] at h
          refine lv_iconst (v := 0) hx hb dX13_runCommands_48 (by decide) ?_
          exact hJ_J49 0 v1_27 s0_27 _ _ hP hD hS _ (lv_sub hl [0, 1] rfl) h
        refine lv_if_ne (tgt := 48) hx hb dX13_runCommands_32 (by decide) (fun c28 => ?_) (fun c28 => ?_)
        · have h := x_f h c28
          exact hJ_J48 x22 q21 _ _ hP hD hS _ (lv_sub hl [1, 0] rfl) h
        · have h := x_t h c28
          refine lv_aload_n hx hb dX13_runCommands_35 rfl (lv_at hl 1 rfl) ?_
          obtain ⟨q29, c29, h⟩ := x_call h
          refine xCall (w2 := MW cA h0 q21) (xRunV (n := 0) (As := []) (rest := []) ⟨hx, hb, hml, hown, hts⟩ (kX13_here l D cA h0 _ N q21 q29 c29) qco_X13_here qml_X13_206 qin_X13_here qse_X13_here qini_X13 (by decide +kernel) (by rw [← erm]; rfl) hK hP hD [0, 1, 2, 3, 4, 5, 6, 7] rfl rfl (q0 := 0) rfl rfl rfl rfl rfl hl.1 rfl (lv_room (Nat.le_of_ble_eq_true rfl)) dX13_runCommands_36 ⟨Nat.zero_le _, Nat.zero_le _⟩) hP hD hS hA [0, 1, 2, 3, 4, 5, 6, 7] [] [0, 1, 2, 3, 4, 5, 6, 7] rfl (wr := []) rfl rfl rfl rfl rfl (fun H locs hP hD hS => ?_)
          refine lv_bipush (v := 59) hx hb dX13_runCommands_39 (by decide) ?_
          refine lv_icmp_ne (tgt := 48) hx hb dX13_runCommands_41 (by decide) (fun c30 => ?_) (fun c30 => ?_)
          · have h := x_f h c30
            exact hJ_J48 x22 q21 _ _ hP hD hS _ (lv_sub hl [1, 0] rfl) h
          · have h := x_t h c30
            refine lv_iconst (v := 1) hx hb dX13_runCommands_44 (by decide) ?_
            refine lv_goto (tgt := 49) hx hb dX13_runCommands_45 (by decide) ?_
            exact hJ_J49 1 x22 q21 _ _ hP hD hS _ (lv_sub hl [1, 0] rfl) h
  exact hL14 N 0 1 ((Ms14 (Ms13 s0 0) 0)) _ _ hP hD hS _ (lv_sub hl [2, 1, 0] rfl) h
def fX13_errorPosition (N : Nat)  (s0 : MS) : Option (Int32 × MS) :=
  xjoin (fun (t0_1 : Int32) (s0_1 : MS) =>
      some (t0_1, s0_1)
    ) fun J24 =>
  if s0.2.2.2.2.2.2.2.2.1 = (-1) then
    xcall (fX13_fails N 1 s0) fun q4 =>
    J24 q4.1 q4.2
  else
    xcall (fX13_done N s0.2.2.2.2.2.2.2.2.1 s0) fun q3 =>
    J24 q3.1 q3.2
set_option maxRecDepth 100000 in
set_option maxHeartbeats 4000000 in
theorem kX13_errorPosition (l : Launch) (D : va_G) (cA : Nat → ClassId) (h0 : Nat → Nat) (sz N : Nat)  (s0 : MS) (q : Int32 × MS) (h : fX13_errorPosition N s0 = some q) : xM l yX13_errorPosition cX13_errorPosition 1 (some .int) ({ frames := 1, cells := 0, slots := 0, locals := 21 }) D cA (MW cA h0 s0) sz [.ref (h0 0)] (some (.int q.1)) (MW cA h0 q.2) := by
  generalize erm : ({ frames := 1, cells := 0, slots := 0, locals := 21 } : Room) = rm
  refine xMet (by decide) (Nat.le_of_ble_eq_true rfl) ?_
  intro p e s m below meth c hx hb hr hlocks hml hts hown hin hK hP A eA hD hS hA hsz ls hl
  have hl : lv_has ls 1 [(0, .ref (h0 0))] := hl
  clear eA
  rw [fX13_errorPosition] at h
  refine lv_aload_n hx hb dX13_errorPosition_0 rfl (lv_at hl 0 rfl) ?_
  refine va_get (D := D) (ci := 12) (v := .int s0.2.2.2.2.2.2.2.2.1) (C := RX13) (T := TX13) (N := 16) hx hb hts iX13 hown hK hP 0 rfl rfl 8 (by decide) (hts _ qfl_X13_26) (fun _ h9 => h9) rfl dX13_errorPosition_1 ?_
  refine lv_iconst (v := (-1)) hx hb dX13_errorPosition_4 (by decide) ?_
  obtain ⟨J24, eJ24, h⟩ := x_join h
  have hJ_J24 : ∀ (t0_1 : Int32) (s0_1 : MS) (H : Heap) (locs : List Loc), va_P D vwCl (MW cA h0 s0_1) H → va_D A (MW cA h0 s0_1) → va_S A s.heap H locs → ∀ ls : Array Slot, lv_has ls 1 [] → J24 t0_1 s0_1 = some q → W p l e rm s m ([.ref (h0 0)] : List Value).toArray below meth c H locs 0 0 (MQ below (xQ D cA A (MW cA h0 q.2) (some (.int q.1))) ([.ref (h0 0)] : List Value).toArray s 0 0 A) (F0 m 24 ls [.int t0_1]) := by
    clear h hP hD hS hl
    intro t0_1 s0_1 H locs hP hD hS ls hl h
    rw [eJ24] at h
    have h := Option.some.inj h
    subst h
    exact xIret hx hb hr hlocks hP hK hD hS dX13_errorPosition_24
  refine lv_icmp_ne (tgt := 16) hx hb dX13_errorPosition_5 (by decide) (fun c2 => ?_) (fun c2 => ?_)
  · have h := x_f h c2
    refine lv_aload_n hx hb dX13_errorPosition_16 rfl (lv_at hl 0 rfl) ?_
    refine lv_aload_n hx hb dX13_errorPosition_17 rfl (lv_at hl 0 rfl) ?_
    refine va_get (D := D) (ci := 12) (v := .int s0.2.2.2.2.2.2.2.2.1) (C := RX13) (T := TX13) (N := 16) hx hb hts iX13 hown hK hP 0 rfl rfl 8 (by decide) (hts _ qfl_X13_26) (fun _ h9 => h9) rfl dX13_errorPosition_18 ?_
    obtain ⟨q3, c3, h⟩ := x_call h
    refine xCall (w2 := MW cA h0 q3.2) (xRunV (n := 1) (As := [.int s0.2.2.2.2.2.2.2.2.1]) (rest := []) ⟨hx, hb, hml, hown, hts⟩ (kX13_done l D cA h0 _ N s0.2.2.2.2.2.2.2.2.1 s0 q3 c3) qco_X13_done qml_X13_60 qin_X13_done qse_X13_done qini_X13 (by decide +kernel) (by rw [← erm]; rfl) hK hP hD [0, 1, 2, 3, 4, 5, 6, 7] rfl rfl (q0 := 0) rfl rfl rfl rfl rfl hl.1 rfl (lv_room (Nat.le_of_ble_eq_true rfl)) dX13_errorPosition_21 ⟨Nat.zero_le _, Nat.zero_le _⟩) hP hD hS hA [0, 1, 2, 3, 4, 5, 6, 7] [] [0, 1, 2, 3, 4, 5, 6, 7] rfl (wr := []) rfl rfl rfl rfl rfl (fun H locs hP hD hS => ?_)
    exact hJ_J24 q3.1 q3.2 _ _ hP hD hS _ (lv_sub hl [] rfl) h
  · have h := x_t h c2
    refine lv_aload_n hx hb dX13_errorPosition_8 rfl (lv_at hl 0 rfl) ?_
    refine lv_iconst (v := 1) hx hb dX13_errorPosition_9 (by decide) ?_
    obtain ⟨q4, c4, h⟩ := x_call h
    refine xCall (w2 := MW cA h0 q4.2) (xRunV (n := 1) (As := [.int 1]) (rest := []) ⟨hx, hb, hml, hown, hts⟩ (kX13_fails l D cA h0 _ N 1 s0 q4 c4) qco_X13_fails qml_X13_57 qin_X13_fails qse_X13_fails qini_X13 (by decide +kernel) (by rw [← erm]; rfl) hK hP hD [0, 1, 2, 3, 4, 5, 6, 7] rfl rfl (q0 := 0) rfl rfl rfl rfl rfl hl.1 rfl (lv_room (Nat.le_of_ble_eq_true rfl)) dX13_errorPosition_10 ⟨Nat.zero_le _, Nat.zero_le _⟩) hP hD hS hA [0, 1, 2, 3, 4, 5, 6, 7] [] [0, 1, 2, 3, 4, 5, 6, 7] rfl (wr := []) rfl rfl rfl rfl rfl (fun H locs hP hD hS => ?_)
    refine lv_goto (tgt := 24) hx hb dX13_errorPosition_13 (by decide) ?_
    exact hJ_J24 q4.1 q4.2 _ _ hP hD hS _ (lv_sub hl [] rfl) h
def fX13_failedCommand (N : Nat)  (s0 : MS) : Option (Int32 × MS) :=
  xjoin (fun (t0_1 : Int32) (s0_1 : MS) =>
      some (t0_1, s0_1)
    ) fun J24 =>
  if s0.2.2.2.2.2.2.2.2.2.1 = (-1) then
    xcall (fX13_fails N 1 s0) fun q4 =>
    J24 q4.1 q4.2
  else
    xcall (fX13_done N s0.2.2.2.2.2.2.2.2.2.1 s0) fun q3 =>
    J24 q3.1 q3.2
set_option maxRecDepth 100000 in
set_option maxHeartbeats 4000000 in
theorem kX13_failedCommand (l : Launch) (D : va_G) (cA : Nat → ClassId) (h0 : Nat → Nat) (sz N : Nat)  (s0 : MS) (q : Int32 × MS) (h : fX13_failedCommand N s0 = some q) : xM l yX13_failedCommand cX13_failedCommand 1 (some .int) ({ frames := 1, cells := 0, slots := 0, locals := 21 }) D cA (MW cA h0 s0) sz [.ref (h0 0)] (some (.int q.1)) (MW cA h0 q.2) := by
  generalize erm : ({ frames := 1, cells := 0, slots := 0, locals := 21 } : Room) = rm
  refine xMet (by decide) (Nat.le_of_ble_eq_true rfl) ?_
  intro p e s m below meth c hx hb hr hlocks hml hts hown hin hK hP A eA hD hS hA hsz ls hl
  have hl : lv_has ls 1 [(0, .ref (h0 0))] := hl
  clear eA
  rw [fX13_failedCommand] at h
  refine lv_aload_n hx hb dX13_failedCommand_0 rfl (lv_at hl 0 rfl) ?_
  refine va_get (D := D) (ci := 12) (v := .int s0.2.2.2.2.2.2.2.2.2.1) (C := RX13) (T := TX13) (N := 16) hx hb hts iX13 hown hK hP 0 rfl rfl 9 (by decide) (hts _ qfl_X13_30) (fun _ h9 => h9) rfl dX13_failedCommand_1 ?_
  refine lv_iconst (v := (-1)) hx hb dX13_failedCommand_4 (by decide) ?_
  obtain ⟨J24, eJ24, h⟩ := x_join h
  have hJ_J24 : ∀ (t0_1 : Int32) (s0_1 : MS) (H : Heap) (locs : List Loc), va_P D vwCl (MW cA h0 s0_1) H → va_D A (MW cA h0 s0_1) → va_S A s.heap H locs → ∀ ls : Array Slot, lv_has ls 1 [] → J24 t0_1 s0_1 = some q → W p l e rm s m ([.ref (h0 0)] : List Value).toArray below meth c H locs 0 0 (MQ below (xQ D cA A (MW cA h0 q.2) (some (.int q.1))) ([.ref (h0 0)] : List Value).toArray s 0 0 A) (F0 m 24 ls [.int t0_1]) := by
    clear h hP hD hS hl
    intro t0_1 s0_1 H locs hP hD hS ls hl h
    rw [eJ24] at h
    have h := Option.some.inj h
    subst h
    exact xIret hx hb hr hlocks hP hK hD hS dX13_failedCommand_24
  refine lv_icmp_ne (tgt := 16) hx hb dX13_failedCommand_5 (by decide) (fun c2 => ?_) (fun c2 => ?_)
  · have h := x_f h c2
    refine lv_aload_n hx hb dX13_failedCommand_16 rfl (lv_at hl 0 rfl) ?_
    refine lv_aload_n hx hb dX13_failedCommand_17 rfl (lv_at hl 0 rfl) ?_
    refine va_get (D := D) (ci := 12) (v := .int s0.2.2.2.2.2.2.2.2.2.1) (C := RX13) (T := TX13) (N := 16) hx hb hts iX13 hown hK hP 0 rfl rfl 9 (by decide) (hts _ qfl_X13_30) (fun _ h9 => h9) rfl dX13_failedCommand_18 ?_
    obtain ⟨q3, c3, h⟩ := x_call h
    refine xCall (w2 := MW cA h0 q3.2) (xRunV (n := 1) (As := [.int s0.2.2.2.2.2.2.2.2.2.1]) (rest := []) ⟨hx, hb, hml, hown, hts⟩ (kX13_done l D cA h0 _ N s0.2.2.2.2.2.2.2.2.2.1 s0 q3 c3) qco_X13_done qml_X13_60 qin_X13_done qse_X13_done qini_X13 (by decide +kernel) (by rw [← erm]; rfl) hK hP hD [0, 1, 2, 3, 4, 5, 6, 7] rfl rfl (q0 := 0) rfl rfl rfl rfl rfl hl.1 rfl (lv_room (Nat.le_of_ble_eq_true rfl)) dX13_failedCommand_21 ⟨Nat.zero_le _, Nat.zero_le _⟩) hP hD hS hA [0, 1, 2, 3, 4, 5, 6, 7] [] [0, 1, 2, 3, 4, 5, 6, 7] rfl (wr := []) rfl rfl rfl rfl rfl (fun H locs hP hD hS => ?_)
    exact hJ_J24 q3.1 q3.2 _ _ hP hD hS _ (lv_sub hl [] rfl) h
  · have h := x_t h c2
    refine lv_aload_n hx hb dX13_failedCommand_8 rfl (lv_at hl 0 rfl) ?_
    refine lv_iconst (v := 1) hx hb dX13_failedCommand_9 (by decide) ?_
    obtain ⟨q4, c4, h⟩ := x_call h
    refine xCall (w2 := MW cA h0 q4.2) (xRunV (n := 1) (As := [.int 1]) (rest := []) ⟨hx, hb, hml, hown, hts⟩ (kX13_fails l D cA h0 _ N 1 s0 q4 c4) qco_X13_fails qml_X13_57 qin_X13_fails qse_X13_fails qini_X13 (by decide +kernel) (by rw [← erm]; rfl) hK hP hD [0, 1, 2, 3, 4, 5, 6, 7] rfl rfl (q0 := 0) rfl rfl rfl rfl rfl hl.1 rfl (lv_room (Nat.le_of_ble_eq_true rfl)) dX13_failedCommand_10 ⟨Nat.zero_le _, Nat.zero_le _⟩) hP hD hS hA [0, 1, 2, 3, 4, 5, 6, 7] [] [0, 1, 2, 3, 4, 5, 6, 7] rfl (wr := []) rfl rfl rfl rfl rfl (fun H locs hP hD hS => ?_)
    refine lv_goto (tgt := 24) hx hb dX13_failedCommand_13 (by decide) ?_
    exact hJ_J24 q4.1 q4.2 _ _ hP hD hS _ (lv_sub hl [] rfl) h
def fX13_writes (N : Nat) (a1 : Int32) (s0 : MS) : Option (MS) :=
  xrd 60 s0.2.2.2.2.2.2.2.2.2.2.2.1 fun k1 =>
  xlet (upd s0.2.2.2.2.2.2.2.2.2.2.1 k1 (vp_nar .char (((Int32.toUInt32 a1) % 65536).toInt32))) fun g2 =>
  xlet (s0.2.2.2.2.2.2.2.2.2.2.2.1 + 1) fun x3 =>
  some ((Ms11 (Ms10 s0 g2) x3))
set_option maxRecDepth 100000 in
set_option maxHeartbeats 4000000 in
theorem kX13_writes (l : Launch) (D : va_G) (cA : Nat → ClassId) (h0 : Nat → Nat) (sz N : Nat) (a1 : Int32) (s0 : MS) (q : MS) (h : fX13_writes N a1 s0 = some q) : xM l yX13_writes cX13_writes 2 none ({ frames := 0, cells := 0, slots := 0, locals := 0 }) D cA (MW cA h0 s0) sz [.ref (h0 0), .int a1] (none) (MW cA h0 q) := by
  generalize erm : ({ frames := 0, cells := 0, slots := 0, locals := 0 } : Room) = rm
  refine xMet (by decide) (Nat.le_of_ble_eq_true rfl) ?_
  intro p e s m below meth c hx hb hr hlocks hml hts hown hin hK hP A eA hD hS hA hsz ls hl
  have hl : lv_has ls 2 [(0, .ref (h0 0)), (1, .int a1)] := hl
  clear eA
  rw [fX13_writes] at h
  refine lv_aload_n hx hb dX13_writes_0 rfl (lv_at hl 0 rfl) ?_
  refine va_get (D := D) (ci := 12) (v := .ref (h0 6)) (C := RX13) (T := TX13) (N := 16) hx hb hts iX13 hown hK hP 0 rfl rfl 10 (by decide) (hts _ qfl_X13_33) (fun _ h9 => h9) rfl dX13_writes_1 ?_
  refine lv_aload_n hx hb dX13_writes_4 rfl (lv_at hl 0 rfl) ?_
  refine va_get (D := D) (ci := 12) (v := .int s0.2.2.2.2.2.2.2.2.2.2.2.1) (C := RX13) (T := TX13) (N := 16) hx hb hts iX13 hown hK hP 0 rfl rfl 11 (by decide) (hts _ qfl_X13_240) (fun _ h9 => h9) rfl dX13_writes_5 ?_
  refine lv_iload_n hx hb dX13_writes_8 rfl (lv_at hl 1 rfl) ?_
  refine lv_i2c hx hb dX13_writes_9 rfl ?_
  obtain ⟨k1, hk1, h⟩ := x_rd h
  refine xCast (w2 := fun zz => MW cA h0 ((Ms10 s0 zz))) hx hb hK hP hD hS 6 1 rfl rfl hk1 (fun _ => rfl) dX13_writes_10 (fun g2 eg2 H locs hP hD hS => ?_)
  have h := x_let h eg2
  have hP : va_P D vwCl (MW cA h0 ((Ms10 s0 g2))) H := hP
  have hD : va_D A (MW cA h0 ((Ms10 s0 g2))) := hD
  refine lv_aload_n hx hb dX13_writes_11 rfl (lv_at hl 0 rfl) ?_
  refine lv_dup hx hb dX13_writes_12 rfl ?_
  refine va_get (D := D) (ci := 12) (v := .int s0.2.2.2.2.2.2.2.2.2.2.2.1) (C := RX13) (T := TX13) (N := 16) hx hb hts iX13 hown hK hP 0 rfl rfl 11 (by decide) (hts _ qfl_X13_240) (fun _ h9 => h9) rfl dX13_writes_13 ?_
  refine lv_iconst (v := 1) hx hb dX13_writes_16 (by decide) ?_
  refine lv_iadd hx hb dX13_writes_17 ?_
  refine lv_topi (fun x3 ex3 => ?_)
  have h := x_let h ex3
  refine va_put (D := D) (ci := 12) (v := .int x3) (ty := .int) (C := RX13) (T := TX13) (N := 16) hx hb hts iX13 tyX13 tyX13_ok nmX13 hown hK hP hD hS 0 rfl rfl 11 (by decide) (hts _ qfl_X13_240) (fun _ h9 => h9) rfl (by decide +kernel) rfl rfl (Nat.le_of_ble_eq_true rfl) dX13_writes_18 (fun H locs hP hD hS => ?_)
  have hP : va_P D vwCl (MW cA h0 ((Ms11 (Ms10 s0 g2) x3))) H := hP
  have hD : va_D A (MW cA h0 ((Ms11 (Ms10 s0 g2) x3))) := hD
  have h := Option.some.inj h
  subst h
  exact xVret hx hb hr hlocks hP hK hD hS dX13_writes_21
def fX13_writesNumber_L21 (N : Nat) (K46 : MS → Option (MS)) : Nat → Int32 → Int32 → MS → Option (MS)
  | 0, _, _, _ => none
  | n + 1, v1_3, v2_3, s0_3 =>
    if v2_3 ≤ 0 then
      K46 s0_3
    else
      xnz (decide (¬ v2_3 = 0)) <|
      xcall (fX13_writes N (48 + ((v1_3 / v2_3) - (v1_3 / v2_3) / 10 * 10)) s0_3) fun q6 =>
      xlet (v2_3 / 10) fun x7 =>
      fX13_writesNumber_L21 N K46 n v1_3 x7 q6
def fX13_writesNumber_L3 (N : Nat) (K21 : Int32 → Int32 → MS → Option (MS)) : Nat → Int32 → Int32 → MS → Option (MS)
  | 0, _, _, _ => none
  | n + 1, v1_8, v2_8, s0_8 =>
    if v2_8 ≤ 1 then
      K21 v1_8 v2_8 s0_8
    else
      if v2_8 ≤ v1_8 then
        K21 v1_8 v2_8 s0_8
      else
        xlet (v2_8 / 10) fun x11 =>
        fX13_writesNumber_L3 N K21 n v1_8 x11 s0_8
def fX13_writesNumber (N : Nat) (a1 : Int32) (s0 : MS) : Option (MS) :=
  xjoin (fun (v1_1 : Int32) (v2_1 : Int32) (s0_1 : MS) =>
      xjoin (fun (s0_2 : MS) =>
          some s0_2
        ) fun K46 =>
      fX13_writesNumber_L21 N K46 N v1_1 v2_1 s0_1
    ) fun K21 =>
  fX13_writesNumber_L3 N K21 N a1 100000000 s0
set_option maxRecDepth 100000 in
set_option maxHeartbeats 4000000 in
theorem kX13_writesNumber (l : Launch) (D : va_G) (cA : Nat → ClassId) (h0 : Nat → Nat) (sz N : Nat) (a1 : Int32) (s0 : MS) (q : MS) (h : fX13_writesNumber N a1 s0 = some q) : xM l yX13_writesNumber cX13_writesNumber 3 none ({ frames := 1, cells := 0, slots := 0, locals := 21 }) D cA (MW cA h0 s0) sz [.ref (h0 0), .int a1] (none) (MW cA h0 q) := by
  generalize erm : ({ frames := 1, cells := 0, slots := 0, locals := 21 } : Room) = rm
  refine xMet (by decide) (Nat.le_of_ble_eq_true rfl) ?_
  intro p e s m below meth c hx hb hr hlocks hml hts hown hin hK hP A eA hD hS hA hsz ls hl
  have hl : lv_has ls 3 [(0, .ref (h0 0)), (1, .int a1)] := hl
  clear eA
  rw [fX13_writesNumber] at h
  refine lv_ldc hx hb hown (hts _ qci_X13_243) dX13_writesNumber_0 ?_
  refine lv_istore_n (lv' := [(2, .int 100000000), (0, .ref (h0 0)), (1, .int a1)]) hx hb dX13_writesNumber_2 rfl hl (by decide) rfl (fun ls hl => ?_)
  obtain ⟨K21, eK21, h⟩ := x_join h
  have hJ_K21 : ∀ (v1_1 : Int32) (v2_1 : Int32) (s0_1 : MS) (H : Heap) (locs : List Loc), va_P D vwCl (MW cA h0 s0_1) H → va_D A (MW cA h0 s0_1) → va_S A s.heap H locs → ∀ ls : Array Slot, lv_has ls 3 [(0, .ref (h0 0)), (1, .int v1_1), (2, .int v2_1)] → K21 v1_1 v2_1 s0_1 = some q → W p l e rm s m ([.ref (h0 0), .int a1] : List Value).toArray below meth c H locs 0 0 (MQ below (xQ D cA A (MW cA h0 q) (none)) ([.ref (h0 0), .int a1] : List Value).toArray s 0 0 A) (F0 m 21 ls []) := by
    clear h hP hD hS hl
    intro v1_1 v2_1 s0_1 H locs hP hD hS ls hl h
    rw [eK21] at h
    obtain ⟨K46, eK46, h⟩ := x_join h
    have hJ_K46 : ∀ (s0_2 : MS) (H : Heap) (locs : List Loc), va_P D vwCl (MW cA h0 s0_2) H → va_D A (MW cA h0 s0_2) → va_S A s.heap H locs → ∀ ls : Array Slot, lv_has ls 3 [] → K46 s0_2 = some q → W p l e rm s m ([.ref (h0 0), .int a1] : List Value).toArray below meth c H locs 0 0 (MQ below (xQ D cA A (MW cA h0 q) (none)) ([.ref (h0 0), .int a1] : List Value).toArray s 0 0 A) (F0 m 46 ls []) := by
      clear h hP hD hS hl
      intro s0_2 H locs hP hD hS ls hl h
      rw [eK46] at h
      have h := Option.some.inj h
      subst h
      exact xVret hx hb hr hlocks hP hK hD hS dX13_writesNumber_46
    have hL21 : ∀ (n : Nat) (v1_3 : Int32) (v2_3 : Int32) (s0_3 : MS) (H : Heap) (locs : List Loc), va_P D vwCl (MW cA h0 s0_3) H → va_D A (MW cA h0 s0_3) → va_S A s.heap H locs → ∀ ls : Array Slot, lv_has ls 3 [(0, .ref (h0 0)), (1, .int v1_3), (2, .int v2_3)] → fX13_writesNumber_L21 N K46 n v1_3 v2_3 s0_3 = some q → W p l e rm s m ([.ref (h0 0), .int a1] : List Value).toArray below meth c H locs 0 0 (MQ below (xQ D cA A (MW cA h0 q) (none)) ([.ref (h0 0), .int a1] : List Value).toArray s 0 0 A) (F0 m 21 ls []) := by
      clear h hP hD hS hl
      intro n
      induction n with
      | zero => intro v1_3 v2_3 s0_3 H locs hP hD hS ls hl h; rw [fX13_writesNumber_L21] at h; cases h
      | succ n ih =>
        intro v1_3 v2_3 s0_3 H locs hP hD hS ls hl h
        rw [fX13_writesNumber_L21] at h
        refine lv_iload_n hx hb dX13_writesNumber_21 rfl (lv_at hl 2 rfl) ?_
        refine lv_if_le (tgt := 46) hx hb dX13_writesNumber_22 (by decide) (fun c4 => ?_) (fun c4 => ?_)
        · have h := x_t h c4
          exact hJ_K46 s0_3 _ _ hP hD hS _ (lv_sub hl [] rfl) h
        · have h := x_f h c4
          refine lv_aload_n hx hb dX13_writesNumber_25 rfl (lv_at hl 0 rfl) ?_
          refine lv_bipush (v := 48) hx hb dX13_writesNumber_26 (by decide) ?_
          refine lv_iload_n hx hb dX13_writesNumber_28 rfl (lv_at hl 1 rfl) ?_
          refine lv_iload_n hx hb dX13_writesNumber_29 rfl (lv_at hl 2 rfl) ?_
          obtain ⟨z5, h⟩ := x_nz h
          refine lv_idiv hx hb dX13_writesNumber_30 (of_decide_eq_true z5) ?_
          refine lv_bipush (v := 10) hx hb dX13_writesNumber_31 (by decide) ?_
          refine lv_irem hx hb dX13_writesNumber_33 (by decide) ?_
          refine lv_iadd hx hb dX13_writesNumber_34 ?_
          obtain ⟨q6, c6, h⟩ := x_call h
          refine xCall (w2 := MW cA h0 q6) (xRunV (n := 1) (As := [.int (48 + ((v1_3 / v2_3) - (v1_3 / v2_3) / 10 * 10))]) (rest := []) ⟨hx, hb, hml, hown, hts⟩ (kX13_writes l D cA h0 _ N (48 + ((v1_3 / v2_3) - (v1_3 / v2_3) / 10 * 10)) s0_3 q6 c6) qco_X13_writes qml_X13_244 qin_X13_writes qse_X13_writes qini_X13 (by decide +kernel) (by rw [← erm]; rfl) hK hP hD [0, 1, 2, 3, 4, 5, 6, 7] rfl rfl (q0 := 0) rfl rfl rfl rfl rfl hl.1 rfl (lv_room (Nat.le_of_ble_eq_true rfl)) dX13_writesNumber_35 ⟨Nat.zero_le _, Nat.zero_le _⟩) hP hD hS hA [0, 1, 2, 3, 4, 5, 6, 7] [] [0, 1, 2, 3, 4, 5, 6, 7] rfl (wr := []) rfl rfl rfl rfl rfl (fun H locs hP hD hS => ?_)
          refine lv_iload_n hx hb dX13_writesNumber_38 rfl (lv_at hl 2 rfl) ?_
          refine lv_bipush (v := 10) hx hb dX13_writesNumber_39 (by decide) ?_
          refine lv_idiv hx hb dX13_writesNumber_41 (by decide) ?_
          refine lv_topi (fun x7 ex7 => ?_)
          have h := x_let h ex7
          refine lv_istore_n (lv' := [(2, .int x7), (0, .ref (h0 0)), (1, .int v1_3)]) hx hb dX13_writesNumber_42 rfl hl (by decide) rfl (fun ls hl => ?_)
          refine lv_goto (tgt := 21) hx hb dX13_writesNumber_43 (by decide) ?_
          exact ih v1_3 x7 q6 _ _ hP hD hS _ (lv_sub hl [1, 2, 0] rfl) h
    exact hL21 N v1_1 v2_1 s0_1 _ _ hP hD hS _ (lv_sub hl [0, 1, 2] rfl) h
  have hL3 : ∀ (n : Nat) (v1_8 : Int32) (v2_8 : Int32) (s0_8 : MS) (H : Heap) (locs : List Loc), va_P D vwCl (MW cA h0 s0_8) H → va_D A (MW cA h0 s0_8) → va_S A s.heap H locs → ∀ ls : Array Slot, lv_has ls 3 [(0, .ref (h0 0)), (1, .int v1_8), (2, .int v2_8)] → fX13_writesNumber_L3 N K21 n v1_8 v2_8 s0_8 = some q → W p l e rm s m ([.ref (h0 0), .int a1] : List Value).toArray below meth c H locs 0 0 (MQ below (xQ D cA A (MW cA h0 q) (none)) ([.ref (h0 0), .int a1] : List Value).toArray s 0 0 A) (F0 m 3 ls []) := by
    clear h hP hD hS hl
    intro n
    induction n with
    | zero => intro v1_8 v2_8 s0_8 H locs hP hD hS ls hl h; rw [fX13_writesNumber_L3] at h; cases h
    | succ n ih =>
      intro v1_8 v2_8 s0_8 H locs hP hD hS ls hl h
      rw [fX13_writesNumber_L3] at h
      refine lv_iload_n hx hb dX13_writesNumber_3 rfl (lv_at hl 2 rfl) ?_
      refine lv_iconst (v := 1) hx hb dX13_writesNumber_4 (by decide) ?_
      refine lv_icmp_le (tgt := 21) hx hb dX13_writesNumber_5 (by decide) (fun c9 => ?_) (fun c9 => ?_)
      · have h := x_t h c9
        exact hJ_K21 v1_8 v2_8 s0_8 _ _ hP hD hS _ (lv_sub hl [0, 1, 2] rfl) h
      · have h := x_f h c9
        refine lv_iload_n hx hb dX13_writesNumber_8 rfl (lv_at hl 1 rfl) ?_
        refine lv_iload_n hx hb dX13_writesNumber_9 rfl (lv_at hl 2 rfl) ?_
        refine lv_icmp_ge (tgt := 21) hx hb dX13_writesNumber_10 (by decide) (fun c10 => ?_) (fun c10 => ?_)
        · have h := x_t h c10
          exact hJ_K21 v1_8 v2_8 s0_8 _ _ hP hD hS _ (lv_sub hl [0, 1, 2] rfl) h
        · have h := x_f h c10
          refine lv_iload_n hx hb dX13_writesNumber_13 rfl (lv_at hl 2 rfl) ?_
          refine lv_bipush (v := 10) hx hb dX13_writesNumber_14 (by decide) ?_
          refine lv_idiv hx hb dX13_writesNumber_16 (by decide) ?_
          refine lv_topi (fun x11 ex11 => ?_)
          have h := x_let h ex11
          refine lv_istore_n (lv' := [(2, .int x11), (0, .ref (h0 0)), (1, .int v1_8)]) hx hb dX13_writesNumber_17 rfl hl (by decide) rfl (fun ls hl => ?_)
          refine lv_goto (tgt := 3) hx hb dX13_writesNumber_18 (by decide) ?_
          exact ih v1_8 x11 s0_8 _ _ hP hD hS _ (lv_sub hl [1, 2, 0] rfl) h
  exact hL3 N a1 100000000 s0 _ _ hP hD hS _ (lv_sub hl [1, 2, 0] rfl) h
def fX13_writeEntry (N : Nat) (a1 : Int32) (s0 : MS) : Option (Int32 × MS) :=
  xcall (fX13_placeOf N a1 s0) fun q1 =>
  if q1 = (-1) then
    xcall (fX13_fails N 1 s0) fun q18 =>
    some (q18.1, q18.2)
  else
    xcall (fX13_writesNumber N a1 ((Ms11 s0 0))) fun q3 =>
    xcall (fX13_writes N 58 q3) fun q4 =>
    xrd 229 (57 + q1) fun k5 =>
    xcall (fX13_writesNumber N (q4.1 k5) q4) fun q6 =>
    xcall (fX13_writes N 60 q6) fun q7 =>
    xrd 229 (77 + q1) fun k8 =>
    xcall (fX13_writesNumber N (q7.1 k8) q7) fun q9 =>
    xcall (fX13_writes N 61 q9) fun q10 =>
    xrd 229 (97 + q1) fun k11 =>
    xcall (fX13_writesNumber N (q10.1 k11) q10) fun q12 =>
    xrd 229 (137 + q1) fun k13 =>
    xjoin (fun (s0_14 : MS) =>
        xcall (fX13_done N s0_14.2.2.2.2.2.2.2.2.2.2.2.1 s0_14) fun q15 =>
        some (q15.1, q15.2)
      ) fun J104 =>
    if (q12.1 k13) = 1 then
      xcall (fX13_writes N 33 q12) fun q17 =>
      J104 q17
    else
      J104 q12
set_option maxRecDepth 100000 in
set_option maxHeartbeats 4000000 in
theorem kX13_writeEntry (l : Launch) (D : va_G) (cA : Nat → ClassId) (h0 : Nat → Nat) (sz N : Nat) (a1 : Int32) (s0 : MS) (q : Int32 × MS) (h : fX13_writeEntry N a1 s0 = some q) : xM l yX13_writeEntry cX13_writeEntry 3 (some .int) ({ frames := 2, cells := 0, slots := 0, locals := 44 }) D cA (MW cA h0 s0) sz [.ref (h0 0), .int a1] (some (.int q.1)) (MW cA h0 q.2) := by
  generalize erm : ({ frames := 2, cells := 0, slots := 0, locals := 44 } : Room) = rm
  refine xMet (by decide) (Nat.le_of_ble_eq_true rfl) ?_
  intro p e s m below meth c hx hb hr hlocks hml hts hown hin hK hP A eA hD hS hA hsz ls hl
  have hl : lv_has ls 3 [(0, .ref (h0 0)), (1, .int a1)] := hl
  clear eA
  rw [fX13_writeEntry] at h
  refine lv_aload_n hx hb dX13_writeEntry_0 rfl (lv_at hl 0 rfl) ?_
  refine lv_iload_n hx hb dX13_writeEntry_1 rfl (lv_at hl 1 rfl) ?_
  obtain ⟨q1, c1, h⟩ := x_call h
  refine xCall (w2 := MW cA h0 s0) (xRunV (n := 1) (As := [.int a1]) (rest := []) ⟨hx, hb, hml, hown, hts⟩ (kX13_placeOf l D cA h0 _ N a1 s0 q1 c1) qco_X13_placeOf qml_X13_91 qin_X13_placeOf qse_X13_placeOf qini_X13 (by decide +kernel) (by rw [← erm]; rfl) hK hP hD [0, 1, 2, 3, 4, 5, 6, 7] rfl rfl (q0 := 0) rfl rfl rfl rfl rfl hl.1 rfl (lv_room (Nat.le_of_ble_eq_true rfl)) dX13_writeEntry_2 ⟨Nat.zero_le _, Nat.zero_le _⟩) hP hD hS hA [0, 1, 2, 3, 4, 5, 6, 7] [] [0, 1, 2, 3, 4, 5, 6, 7] rfl (wr := []) rfl rfl rfl rfl rfl (fun H locs hP hD hS => ?_)
  refine lv_istore_n (lv' := [(2, .int q1), (0, .ref (h0 0)), (1, .int a1)]) hx hb dX13_writeEntry_5 rfl hl (by decide) rfl (fun ls hl => ?_)
  refine lv_iload_n hx hb dX13_writeEntry_6 rfl (lv_at hl 0 rfl) ?_
  refine lv_iconst (v := (-1)) hx hb dX13_writeEntry_7 (by decide) ?_
  refine lv_icmp_ne (tgt := 17) hx hb dX13_writeEntry_8 (by decide) (fun c2 => ?_) (fun c2 => ?_)
  · have h := x_f h c2
    refine lv_aload_n hx hb dX13_writeEntry_17 rfl (lv_at hl 1 rfl) ?_
    refine lv_iconst (v := 0) hx hb dX13_writeEntry_18 (by decide) ?_
    refine va_put (D := D) (ci := 12) (v := .int 0) (ty := .int) (C := RX13) (T := TX13) (N := 16) hx hb hts iX13 tyX13 tyX13_ok nmX13 hown hK hP hD hS 0 rfl rfl 11 (by decide) (hts _ qfl_X13_240) (fun _ h9 => h9) rfl (by decide +kernel) rfl rfl (Nat.le_of_ble_eq_true rfl) dX13_writeEntry_19 (fun H locs hP hD hS => ?_)
    have hP : va_P D vwCl (MW cA h0 ((Ms11 s0 0))) H := hP
    have hD : va_D A (MW cA h0 ((Ms11 s0 0))) := hD
    refine lv_aload_n hx hb dX13_writeEntry_22 rfl (lv_at hl 1 rfl) ?_
    refine lv_iload_n hx hb dX13_writeEntry_23 rfl (lv_at hl 2 rfl) ?_
    obtain ⟨q3, c3, h⟩ := x_call h
    refine xCall (w2 := MW cA h0 q3) (xRunV (n := 1) (As := [.int a1]) (rest := []) ⟨hx, hb, hml, hown, hts⟩ (kX13_writesNumber l D cA h0 _ N a1 ((Ms11 s0 0)) q3 c3) qco_X13_writesNumber qml_X13_247 qin_X13_writesNumber qse_X13_writesNumber qini_X13 (by decide +kernel) (by rw [← erm]; rfl) hK hP hD [0, 1, 2, 3, 4, 5, 6, 7] rfl rfl (q0 := 0) rfl rfl rfl rfl rfl hl.1 rfl (lv_room (Nat.le_of_ble_eq_true rfl)) dX13_writeEntry_24 ⟨Nat.zero_le _, Nat.zero_le _⟩) hP hD hS hA [0, 1, 2, 3, 4, 5, 6, 7] [] [0, 1, 2, 3, 4, 5, 6, 7] rfl (wr := []) rfl rfl rfl rfl rfl (fun H locs hP hD hS => ?_)
    refine lv_aload_n hx hb dX13_writeEntry_27 rfl (lv_at hl 1 rfl) ?_
    refine lv_bipush (v := 58) hx hb dX13_writeEntry_28 (by decide) ?_
    obtain ⟨q4, c4, h⟩ := x_call h
    refine xCall (w2 := MW cA h0 q4) (xRunV (n := 1) (As := [.int 58]) (rest := []) ⟨hx, hb, hml, hown, hts⟩ (kX13_writes l D cA h0 _ N 58 q3 q4 c4) qco_X13_writes qml_X13_244 qin_X13_writes qse_X13_writes qini_X13 (by decide +kernel) (by rw [← erm]; rfl) hK hP hD [0, 1, 2, 3, 4, 5, 6, 7] rfl rfl (q0 := 0) rfl rfl rfl rfl rfl hl.1 rfl (lv_room (Nat.le_of_ble_eq_true rfl)) dX13_writeEntry_30 ⟨Nat.zero_le _, Nat.zero_le _⟩) hP hD hS hA [0, 1, 2, 3, 4, 5, 6, 7] [] [0, 1, 2, 3, 4, 5, 6, 7] rfl (wr := []) rfl rfl rfl rfl rfl (fun H locs hP hD hS => ?_)
    refine lv_aload_n hx hb dX13_writeEntry_33 rfl (lv_at hl 1 rfl) ?_
    refine lv_aload_n hx hb dX13_writeEntry_34 rfl (lv_at hl 1 rfl) ?_
    refine va_get (D := D) (ci := 12) (v := .ref (h0 1)) (C := RX13) (T := TX13) (N := 16) hx hb hts iX13 hown hK hP 0 rfl rfl 0 (by decide) (hts _ qfl_X13_7) (fun _ h9 => h9) rfl dX13_writeEntry_35 ?_
    refine lv_bipush (v := 57) hx hb dX13_writeEntry_38 (by decide) ?_
    refine lv_iload_n hx hb dX13_writeEntry_40 rfl (lv_at hl 0 rfl) ?_
    refine lv_iadd hx hb dX13_writeEntry_41 ?_
    obtain ⟨k5, hk5, h⟩ := x_rd h
    refine xIald hx hb hK hP 1 0 rfl rfl hk5 dX13_writeEntry_42 ?_
    obtain ⟨q6, c6, h⟩ := x_call h
    refine xCall (w2 := MW cA h0 q6) (xRunV (n := 1) (As := [.int (q4.1 k5)]) (rest := []) ⟨hx, hb, hml, hown, hts⟩ (kX13_writesNumber l D cA h0 _ N (q4.1 k5) q4 q6 c6) qco_X13_writesNumber qml_X13_247 qin_X13_writesNumber qse_X13_writesNumber qini_X13 (by decide +kernel) (by rw [← erm]; rfl) hK hP hD [0, 1, 2, 3, 4, 5, 6, 7] rfl rfl (q0 := 0) rfl rfl rfl rfl rfl hl.1 rfl (lv_room (Nat.le_of_ble_eq_true rfl)) dX13_writeEntry_43 ⟨Nat.zero_le _, Nat.zero_le _⟩) hP hD hS hA [0, 1, 2, 3, 4, 5, 6, 7] [] [0, 1, 2, 3, 4, 5, 6, 7] rfl (wr := []) rfl rfl rfl rfl rfl (fun H locs hP hD hS => ?_)
    refine lv_aload_n hx hb dX13_writeEntry_46 rfl (lv_at hl 1 rfl) ?_
    refine lv_bipush (v := 60) hx hb dX13_writeEntry_47 (by decide) ?_
    obtain ⟨q7, c7, h⟩ := x_call h
    refine xCall (w2 := MW cA h0 q7) (xRunV (n := 1) (As := [.int 60]) (rest := []) ⟨hx, hb, hml, hown, hts⟩ (kX13_writes l D cA h0 _ N 60 q6 q7 c7) qco_X13_writes qml_X13_244 qin_X13_writes qse_X13_writes qini_X13 (by decide +kernel) (by rw [← erm]; rfl) hK hP hD [0, 1, 2, 3, 4, 5, 6, 7] rfl rfl (q0 := 0) rfl rfl rfl rfl rfl hl.1 rfl (lv_room (Nat.le_of_ble_eq_true rfl)) dX13_writeEntry_49 ⟨Nat.zero_le _, Nat.zero_le _⟩) hP hD hS hA [0, 1, 2, 3, 4, 5, 6, 7] [] [0, 1, 2, 3, 4, 5, 6, 7] rfl (wr := []) rfl rfl rfl rfl rfl (fun H locs hP hD hS => ?_)
    refine lv_aload_n hx hb dX13_writeEntry_52 rfl (lv_at hl 1 rfl) ?_
    refine lv_aload_n hx hb dX13_writeEntry_53 rfl (lv_at hl 1 rfl) ?_
    refine va_get (D := D) (ci := 12) (v := .ref (h0 1)) (C := RX13) (T := TX13) (N := 16) hx hb hts iX13 hown hK hP 0 rfl rfl 0 (by decide) (hts _ qfl_X13_7) (fun _ h9 => h9) rfl dX13_writeEntry_54 ?_
    refine lv_bipush (v := 77) hx hb dX13_writeEntry_57 (by decide) ?_
    refine lv_iload_n hx hb dX13_writeEntry_59 rfl (lv_at hl 0 rfl) ?_
    refine lv_iadd hx hb dX13_writeEntry_60 ?_
    obtain ⟨k8, hk8, h⟩ := x_rd h
    refine xIald hx hb hK hP 1 0 rfl rfl hk8 dX13_writeEntry_61 ?_
    obtain ⟨q9, c9, h⟩ := x_call h
    refine xCall (w2 := MW cA h0 q9) (xRunV (n := 1) (As := [.int (q7.1 k8)]) (rest := []) ⟨hx, hb, hml, hown, hts⟩ (kX13_writesNumber l D cA h0 _ N (q7.1 k8) q7 q9 c9) qco_X13_writesNumber qml_X13_247 qin_X13_writesNumber qse_X13_writesNumber qini_X13 (by decide +kernel) (by rw [← erm]; rfl) hK hP hD [0, 1, 2, 3, 4, 5, 6, 7] rfl rfl (q0 := 0) rfl rfl rfl rfl rfl hl.1 rfl (lv_room (Nat.le_of_ble_eq_true rfl)) dX13_writeEntry_62 ⟨Nat.zero_le _, Nat.zero_le _⟩) hP hD hS hA [0, 1, 2, 3, 4, 5, 6, 7] [] [0, 1, 2, 3, 4, 5, 6, 7] rfl (wr := []) rfl rfl rfl rfl rfl (fun H locs hP hD hS => ?_)
    refine lv_aload_n hx hb dX13_writeEntry_65 rfl (lv_at hl 1 rfl) ?_
    refine lv_bipush (v := 61) hx hb dX13_writeEntry_66 (by decide) ?_
    obtain ⟨q10, c10, h⟩ := x_call h
    refine xCall (w2 := MW cA h0 q10) (xRunV (n := 1) (As := [.int 61]) (rest := []) ⟨hx, hb, hml, hown, hts⟩ (kX13_writes l D cA h0 _ N 61 q9 q10 c10) qco_X13_writes qml_X13_244 qin_X13_writes qse_X13_writes qini_X13 (by decide +kernel) (by rw [← erm]; rfl) hK hP hD [0, 1, 2, 3, 4, 5, 6, 7] rfl rfl (q0 := 0) rfl rfl rfl rfl rfl hl.1 rfl (lv_room (Nat.le_of_ble_eq_true rfl)) dX13_writeEntry_68 ⟨Nat.zero_le _, Nat.zero_le _⟩) hP hD hS hA [0, 1, 2, 3, 4, 5, 6, 7] [] [0, 1, 2, 3, 4, 5, 6, 7] rfl (wr := []) rfl rfl rfl rfl rfl (fun H locs hP hD hS => ?_)
    refine lv_aload_n hx hb dX13_writeEntry_71 rfl (lv_at hl 1 rfl) ?_
    refine lv_aload_n hx hb dX13_writeEntry_72 rfl (lv_at hl 1 rfl) ?_
    refine va_get (D := D) (ci := 12) (v := .ref (h0 1)) (C := RX13) (T := TX13) (N := 16) hx hb hts iX13 hown hK hP 0 rfl rfl 0 (by decide) (hts _ qfl_X13_7) (fun _ h9 => h9) rfl dX13_writeEntry_73 ?_
    refine lv_bipush (v := 97) hx hb dX13_writeEntry_76 (by decide) ?_
    refine lv_iload_n hx hb dX13_writeEntry_78 rfl (lv_at hl 0 rfl) ?_
    refine lv_iadd hx hb dX13_writeEntry_79 ?_
    obtain ⟨k11, hk11, h⟩ := x_rd h
    refine xIald hx hb hK hP 1 0 rfl rfl hk11 dX13_writeEntry_80 ?_
    obtain ⟨q12, c12, h⟩ := x_call h
    refine xCall (w2 := MW cA h0 q12) (xRunV (n := 1) (As := [.int (q10.1 k11)]) (rest := []) ⟨hx, hb, hml, hown, hts⟩ (kX13_writesNumber l D cA h0 _ N (q10.1 k11) q10 q12 c12) qco_X13_writesNumber qml_X13_247 qin_X13_writesNumber qse_X13_writesNumber qini_X13 (by decide +kernel) (by rw [← erm]; rfl) hK hP hD [0, 1, 2, 3, 4, 5, 6, 7] rfl rfl (q0 := 0) rfl rfl rfl rfl rfl hl.1 rfl (lv_room (Nat.le_of_ble_eq_true rfl)) dX13_writeEntry_81 ⟨Nat.zero_le _, Nat.zero_le _⟩) hP hD hS hA [0, 1, 2, 3, 4, 5, 6, 7] [] [0, 1, 2, 3, 4, 5, 6, 7] rfl (wr := []) rfl rfl rfl rfl rfl (fun H locs hP hD hS => ?_)
    refine lv_aload_n hx hb dX13_writeEntry_84 rfl (lv_at hl 1 rfl) ?_
    refine va_get (D := D) (ci := 12) (v := .ref (h0 1)) (C := RX13) (T := TX13) (N := 16) hx hb hts iX13 hown hK hP 0 rfl rfl 0 (by decide) (hts _ qfl_X13_7) (fun _ h9 => h9) rfl dX13_writeEntry_85 ?_
    refine lv_sipush (v := 137) hx hb dX13_writeEntry_88 (by decide) ?_
    refine lv_iload_n hx hb dX13_writeEntry_91 rfl (lv_at hl 0 rfl) ?_
    refine lv_iadd hx hb dX13_writeEntry_92 ?_
    obtain ⟨k13, hk13, h⟩ := x_rd h
    refine xIald hx hb hK hP 1 0 rfl rfl hk13 dX13_writeEntry_93 ?_
    refine lv_iconst (v := 1) hx hb dX13_writeEntry_94 (by decide) ?_
    obtain ⟨J104, eJ104, h⟩ := x_join h
    have hJ_J104 : ∀ (s0_14 : MS) (H : Heap) (locs : List Loc), va_P D vwCl (MW cA h0 s0_14) H → va_D A (MW cA h0 s0_14) → va_S A s.heap H locs → ∀ ls : Array Slot, lv_has ls 3 [(0, .ref (h0 0))] → J104 s0_14 = some q → W p l e rm s m ([.ref (h0 0), .int a1] : List Value).toArray below meth c H locs 0 0 (MQ below (xQ D cA A (MW cA h0 q.2) (some (.int q.1))) ([.ref (h0 0), .int a1] : List Value).toArray s 0 0 A) (F0 m 104 ls []) := by
      clear h hP hD hS hl
      intro s0_14 H locs hP hD hS ls hl h
      rw [eJ104] at h
      refine lv_aload_n hx hb dX13_writeEntry_104 rfl (lv_at hl 0 rfl) ?_
      refine lv_aload_n hx hb dX13_writeEntry_105 rfl (lv_at hl 0 rfl) ?_
      refine va_get (D := D) (ci := 12) (v := .int s0_14.2.2.2.2.2.2.2.2.2.2.2.1) (C := RX13) (T := TX13) (N := 16) hx hb hts iX13 hown hK hP 0 rfl rfl 11 (by decide) (hts _ qfl_X13_240) (fun _ h9 => h9) rfl dX13_writeEntry_106 ?_
      obtain ⟨q15, c15, h⟩ := x_call h
      refine xCall (w2 := MW cA h0 q15.2) (xRunV (n := 1) (As := [.int s0_14.2.2.2.2.2.2.2.2.2.2.2.1]) (rest := []) ⟨hx, hb, hml, hown, hts⟩ (kX13_done l D cA h0 _ N s0_14.2.2.2.2.2.2.2.2.2.2.2.1 s0_14 q15 c15) qco_X13_done qml_X13_60 qin_X13_done qse_X13_done qini_X13 (by decide +kernel) (by rw [← erm]; rfl) hK hP hD [0, 1, 2, 3, 4, 5, 6, 7] rfl rfl (q0 := 0) rfl rfl rfl rfl rfl hl.1 rfl (lv_room (Nat.le_of_ble_eq_true rfl)) dX13_writeEntry_109 ⟨Nat.zero_le _, Nat.zero_le _⟩) hP hD hS hA [0, 1, 2, 3, 4, 5, 6, 7] [] [0, 1, 2, 3, 4, 5, 6, 7] rfl (wr := []) rfl rfl rfl rfl rfl (fun H locs hP hD hS => ?_)
      have h := Option.some.inj h
      subst h
      exact xIret hx hb hr hlocks hP hK hD hS dX13_writeEntry_112
    refine lv_icmp_ne (tgt := 104) hx hb dX13_writeEntry_95 (by decide) (fun c16 => ?_) (fun c16 => ?_)
    · have h := x_f h c16
      exact hJ_J104 q12 _ _ hP hD hS _ (lv_sub hl [1] rfl) h
    · have h := x_t h c16
      refine lv_aload_n hx hb dX13_writeEntry_98 rfl (lv_at hl 1 rfl) ?_
      refine lv_bipush (v := 33) hx hb dX13_writeEntry_99 (by decide) ?_
      obtain ⟨q17, c17, h⟩ := x_call h
      refine xCall (w2 := MW cA h0 q17) (xRunV (n := 1) (As := [.int 33]) (rest := []) ⟨hx, hb, hml, hown, hts⟩ (kX13_writes l D cA h0 _ N 33 q12 q17 c17) qco_X13_writes qml_X13_244 qin_X13_writes qse_X13_writes qini_X13 (by decide +kernel) (by rw [← erm]; rfl) hK hP hD [0, 1, 2, 3, 4, 5, 6, 7] rfl rfl (q0 := 0) rfl rfl rfl rfl rfl hl.1 rfl (lv_room (Nat.le_of_ble_eq_true rfl)) dX13_writeEntry_101 ⟨Nat.zero_le _, Nat.zero_le _⟩) hP hD hS hA [0, 1, 2, 3, 4, 5, 6, 7] [] [0, 1, 2, 3, 4, 5, 6, 7] rfl (wr := []) rfl rfl rfl rfl rfl (fun H locs hP hD hS => ?_)
      exact hJ_J104 q17 _ _ hP hD hS _ (lv_sub hl [1] rfl) h
  · have h := x_t h c2
    refine lv_aload_n hx hb dX13_writeEntry_11 rfl (lv_at hl 1 rfl) ?_
    refine lv_iconst (v := 1) hx hb dX13_writeEntry_12 (by decide) ?_
    obtain ⟨q18, c18, h⟩ := x_call h
    refine xCall (w2 := MW cA h0 q18.2) (xRunV (n := 1) (As := [.int 1]) (rest := []) ⟨hx, hb, hml, hown, hts⟩ (kX13_fails l D cA h0 _ N 1 s0 q18 c18) qco_X13_fails qml_X13_57 qin_X13_fails qse_X13_fails qini_X13 (by decide +kernel) (by rw [← erm]; rfl) hK hP hD [0, 1, 2, 3, 4, 5, 6, 7] rfl rfl (q0 := 0) rfl rfl rfl rfl rfl hl.1 rfl (lv_room (Nat.le_of_ble_eq_true rfl)) dX13_writeEntry_13 ⟨Nat.zero_le _, Nat.zero_le _⟩) hP hD hS hA [0, 1, 2, 3, 4, 5, 6, 7] [] [0, 1, 2, 3, 4, 5, 6, 7] rfl (wr := []) rfl rfl rfl rfl rfl (fun H locs hP hD hS => ?_)
    have h := Option.some.inj h
    subst h
    exact xIret hx hb hr hlocks hP hK hD hS dX13_writeEntry_16
