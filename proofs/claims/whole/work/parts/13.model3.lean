/-! the reference, method by method: what it computes, and that its bytes compute it -/
def fX13_costByCostumes (N : Nat) (a1 : Int32) (s0 : MS) : Option (Int32 × MS) :=
  xcall (fX13_costOf N a1 s0) fun q1 =>
  some (q1.1, q1.2)
set_option maxRecDepth 100000 in
set_option maxHeartbeats 4000000 in
theorem kX13_costByCostumes (l : Launch) (D : va_G) (cA : Nat → ClassId) (h0 : Nat → Nat) (sz N : Nat) (a1 : Int32) (s0 : MS) (q : Int32 × MS) (h : fX13_costByCostumes N a1 s0 = some q) : xM l yX13_costByCostumes cX13_costByCostumes 2 (some .int) ({ frames := 2, cells := 0, slots := 0, locals := 46 }) D cA (MW cA h0 s0) sz [.ref (h0 0), .int a1] (some (.int q.1)) (MW cA h0 q.2) := by
  generalize erm : ({ frames := 2, cells := 0, slots := 0, locals := 46 } : Room) = rm
  refine xMet (by decide) (Nat.le_of_ble_eq_true rfl) ?_
  intro p e s m below meth c hx hb hr hlocks hml hts hown hin hK hP A eA hD hS hA hsz ls hl
  have hl : lv_has ls 2 [(0, .ref (h0 0)), (1, .int a1)] := hl
  clear eA
  rw [fX13_costByCostumes] at h
  refine lv_aload_n hx hb dX13_costByCostumes_0 rfl (lv_at hl 0 rfl) ?_
  refine lv_iload_n hx hb dX13_costByCostumes_1 rfl (lv_at hl 1 rfl) ?_
  obtain ⟨q1, c1, h⟩ := x_call h
  refine xCall (w2 := MW cA h0 q1.2) (xRunV (n := 1) (As := [.int a1]) (rest := []) ⟨hx, hb, hml, hown, hts⟩ (kX13_costOf l D cA h0 _ N a1 s0 q1 c1) qco_X13_costOf qml_X13_184 qin_X13_costOf qse_X13_costOf qini_X13 (by decide +kernel) (by rw [← erm]; rfl) hK hP hD [0, 1, 2, 3, 4, 5, 6, 7] rfl rfl (q0 := 0) rfl rfl rfl rfl rfl hl.1 rfl (lv_room (Nat.le_of_ble_eq_true rfl)) dX13_costByCostumes_2 ⟨Nat.zero_le _, Nat.zero_le _⟩) hP hD hS hA [0, 1, 2, 3, 4, 5, 6, 7] [] [0, 1, 2, 3, 4, 5, 6, 7] rfl (wr := []) rfl rfl rfl rfl rfl (fun H locs hP hD hS => ?_)
  have h := Option.some.inj h
  subst h
  exact xIret hx hb hr hlocks hP hK hD hS dX13_costByCostumes_5
def fX13_billCount (N : Nat)  (s0 : MS) : Option (Int32 × MS) :=
  xcall (fX13_done N (s0.1 6) s0) fun q1 =>
  some (q1.1, q1.2)
set_option maxRecDepth 100000 in
set_option maxHeartbeats 4000000 in
theorem kX13_billCount (l : Launch) (D : va_G) (cA : Nat → ClassId) (h0 : Nat → Nat) (sz N : Nat)  (s0 : MS) (q : Int32 × MS) (h : fX13_billCount N s0 = some q) : xM l yX13_billCount cX13_billCount 1 (some .int) ({ frames := 1, cells := 0, slots := 0, locals := 21 }) D cA (MW cA h0 s0) sz [.ref (h0 0)] (some (.int q.1)) (MW cA h0 q.2) := by
  generalize erm : ({ frames := 1, cells := 0, slots := 0, locals := 21 } : Room) = rm
  refine xMet (by decide) (Nat.le_of_ble_eq_true rfl) ?_
  intro p e s m below meth c hx hb hr hlocks hml hts hown hin hK hP A eA hD hS hA hsz ls hl
  have hl : lv_has ls 1 [(0, .ref (h0 0))] := hl
  clear eA
  rw [fX13_billCount] at h
  refine lv_aload_n hx hb dX13_billCount_0 rfl (lv_at hl 0 rfl) ?_
  refine lv_aload_n hx hb dX13_billCount_1 rfl (lv_at hl 0 rfl) ?_
  refine va_get (D := D) (ci := 12) (v := .ref (h0 1)) (C := RX13) (T := TX13) (N := 16) hx hb hts iX13 hown hK hP 0 rfl rfl 0 (by decide) (hts _ qfl_X13_7) (fun _ h9 => h9) rfl dX13_billCount_2 ?_
  refine lv_bipush (v := 6) hx hb dX13_billCount_5 (by decide) ?_
  refine xIald hx hb hK hP 1 0 rfl rfl (x_lit (k := 6) (by decide)) dX13_billCount_7 ?_
  obtain ⟨q1, c1, h⟩ := x_call h
  refine xCall (w2 := MW cA h0 q1.2) (xRunV (n := 1) (As := [.int (s0.1 6)]) (rest := []) ⟨hx, hb, hml, hown, hts⟩ (kX13_done l D cA h0 _ N (s0.1 6) s0 q1 c1) qco_X13_done qml_X13_60 qin_X13_done qse_X13_done qini_X13 (by decide +kernel) (by rw [← erm]; rfl) hK hP hD [0, 1, 2, 3, 4, 5, 6, 7] rfl rfl (q0 := 0) rfl rfl rfl rfl rfl hl.1 rfl (lv_room (Nat.le_of_ble_eq_true rfl)) dX13_billCount_8 ⟨Nat.zero_le _, Nat.zero_le _⟩) hP hD hS hA [0, 1, 2, 3, 4, 5, 6, 7] [] [0, 1, 2, 3, 4, 5, 6, 7] rfl (wr := []) rfl rfl rfl rfl rfl (fun H locs hP hD hS => ?_)
  have h := Option.some.inj h
  subst h
  exact xIret hx hb hr hlocks hP hK hD hS dX13_billCount_11
def fX13_billAt (N : Nat) (a1 : Int32) (s0 : MS) : Option (Int32 × MS) :=
  xcall (fX13_in N a1 0 ((s0.1 6) - 1)) fun q1 =>
  xjoin (fun (t0_2 : Int32) (s0_2 : MS) =>
      some (t0_2, s0_2)
    ) fun J39 =>
  if q1 = 0 then
    xcall (fX13_fails N 1 s0) fun q4 =>
    J39 q4.1 q4.2
  else
    xrd 229 (209 + a1) fun k5 =>
    xcall (fX13_done N (s0.1 k5) s0) fun q6 =>
    J39 q6.1 q6.2
set_option maxRecDepth 100000 in
set_option maxHeartbeats 4000000 in
theorem kX13_billAt (l : Launch) (D : va_G) (cA : Nat → ClassId) (h0 : Nat → Nat) (sz N : Nat) (a1 : Int32) (s0 : MS) (q : Int32 × MS) (h : fX13_billAt N a1 s0 = some q) : xM l yX13_billAt cX13_billAt 2 (some .int) ({ frames := 1, cells := 0, slots := 0, locals := 22 }) D cA (MW cA h0 s0) sz [.ref (h0 0), .int a1] (some (.int q.1)) (MW cA h0 q.2) := by
  generalize erm : ({ frames := 1, cells := 0, slots := 0, locals := 22 } : Room) = rm
  refine xMet (by decide) (Nat.le_of_ble_eq_true rfl) ?_
  intro p e s m below meth c hx hb hr hlocks hml hts hown hin hK hP A eA hD hS hA hsz ls hl
  have hl : lv_has ls 2 [(0, .ref (h0 0)), (1, .int a1)] := hl
  clear eA
  rw [fX13_billAt] at h
  refine lv_iload_n hx hb dX13_billAt_0 rfl (lv_at hl 1 rfl) ?_
  refine lv_iconst (v := 0) hx hb dX13_billAt_1 (by decide) ?_
  refine lv_aload_n hx hb dX13_billAt_2 rfl (lv_at hl 0 rfl) ?_
  refine va_get (D := D) (ci := 12) (v := .ref (h0 1)) (C := RX13) (T := TX13) (N := 16) hx hb hts iX13 hown hK hP 0 rfl rfl 0 (by decide) (hts _ qfl_X13_7) (fun _ h9 => h9) rfl dX13_billAt_3 ?_
  refine lv_bipush (v := 6) hx hb dX13_billAt_6 (by decide) ?_
  refine xIald hx hb hK hP 1 0 rfl rfl (x_lit (k := 6) (by decide)) dX13_billAt_8 ?_
  refine lv_iconst (v := 1) hx hb dX13_billAt_9 (by decide) ?_
  refine lv_isub hx hb dX13_billAt_10 ?_
  obtain ⟨q1, c1, h⟩ := x_call h
  refine xCall (w2 := MW cA h0 s0) (xRunS (n := 3) (As := [.int a1, .int 0, .int ((s0.1 6) - 1)]) (rest := []) ⟨hx, hb, hml, hown, hts⟩ (kX13_in l D cA  _ N a1 0 ((s0.1 6) - 1) q1 c1) qco_X13_in qml_X13_49 qst_X13_in qini_X13 (by decide +kernel) (by rw [← erm]; rfl) hK hP hD [] rfl rfl rfl rfl hl.1 rfl (lv_room (Nat.le_of_ble_eq_true rfl)) dX13_billAt_11 ⟨Nat.zero_le _, Nat.zero_le _⟩) hP hD hS hA [] [0, 1, 2, 3, 4, 5, 6, 7] [0, 1, 2, 3, 4, 5, 6, 7] rfl (wr := [(h0 0, .inr (12, [.ref (h0 1), .ref (h0 2), .ref (h0 3), .int (s0.2.2.2.1), .ref (h0 4), .int (s0.2.2.2.2.2.1), .ref (h0 5), .int (s0.2.2.2.2.2.2.2.1), .int (s0.2.2.2.2.2.2.2.2.1), .int (s0.2.2.2.2.2.2.2.2.2.1), .ref (h0 6), .int (s0.2.2.2.2.2.2.2.2.2.2.2.1), .int (s0.2.2.2.2.2.2.2.2.2.2.2.2.1), .int (s0.2.2.2.2.2.2.2.2.2.2.2.2.2.1), .int (s0.2.2.2.2.2.2.2.2.2.2.2.2.2.2.1), .ref (h0 7)])), (h0 1, .inl (cA 0, 229, .inl (s0.1))), (h0 2, .inl (cA 0, 229, .inl (s0.2.1))), (h0 3, .inl (cA 0, 1832, .inl (s0.2.2.1))), (h0 4, .inl (cA 0, 229, .inl (s0.2.2.2.2.1))), (h0 5, .inl (cA 1, 60, .inl (s0.2.2.2.2.2.2.1))), (h0 6, .inl (cA 1, 60, .inl (s0.2.2.2.2.2.2.2.2.2.2.1))), (h0 7, .inl (cA 0, 240, .inl (s0.2.2.2.2.2.2.2.2.2.2.2.2.2.2.2)))]) rfl rfl rfl rfl rfl (fun H locs hP hD hS => ?_)
  obtain ⟨J39, eJ39, h⟩ := x_join h
  have hJ_J39 : ∀ (t0_2 : Int32) (s0_2 : MS) (H : Heap) (locs : List Loc), va_P D vwCl (MW cA h0 s0_2) H → va_D A (MW cA h0 s0_2) → va_S A s.heap H locs → ∀ ls : Array Slot, lv_has ls 2 [] → J39 t0_2 s0_2 = some q → W p l e rm s m ([.ref (h0 0), .int a1] : List Value).toArray below meth c H locs 0 0 (MQ below (xQ D cA A (MW cA h0 q.2) (some (.int q.1))) ([.ref (h0 0), .int a1] : List Value).toArray s 0 0 A) (F0 m 39 ls [.int t0_2]) := by
    clear h hP hD hS hl
    intro t0_2 s0_2 H locs hP hD hS ls hl h
    rw [eJ39] at h
    have h := Option.some.inj h
    subst h
    exact xIret hx hb hr hlocks hP hK hD hS dX13_billAt_39
  refine lv_if_eq (tgt := 34) hx hb dX13_billAt_14 (by decide) (fun c3 => ?_) (fun c3 => ?_)
  · have h := x_t h c3
    refine lv_aload_n hx hb dX13_billAt_34 rfl (lv_at hl 0 rfl) ?_
    refine lv_iconst (v := 1) hx hb dX13_billAt_35 (by decide) ?_
    obtain ⟨q4, c4, h⟩ := x_call h
    refine xCall (w2 := MW cA h0 q4.2) (xRunV (n := 1) (As := [.int 1]) (rest := []) ⟨hx, hb, hml, hown, hts⟩ (kX13_fails l D cA h0 _ N 1 s0 q4 c4) qco_X13_fails qml_X13_57 qin_X13_fails qse_X13_fails qini_X13 (by decide +kernel) (by rw [← erm]; rfl) hK hP hD [0, 1, 2, 3, 4, 5, 6, 7] rfl rfl (q0 := 0) rfl rfl rfl rfl rfl hl.1 rfl (lv_room (Nat.le_of_ble_eq_true rfl)) dX13_billAt_36 ⟨Nat.zero_le _, Nat.zero_le _⟩) hP hD hS hA [0, 1, 2, 3, 4, 5, 6, 7] [] [0, 1, 2, 3, 4, 5, 6, 7] rfl (wr := []) rfl rfl rfl rfl rfl (fun H locs hP hD hS => ?_)
    exact hJ_J39 q4.1 q4.2 _ _ hP hD hS _ (lv_sub hl [] rfl) h
  · have h := x_f h c3
    refine lv_aload_n hx hb dX13_billAt_17 rfl (lv_at hl 0 rfl) ?_
    refine lv_aload_n hx hb dX13_billAt_18 rfl (lv_at hl 0 rfl) ?_
    refine va_get (D := D) (ci := 12) (v := .ref (h0 1)) (C := RX13) (T := TX13) (N := 16) hx hb hts iX13 hown hK hP 0 rfl rfl 0 (by decide) (hts _ qfl_X13_7) (fun _ h9 => h9) rfl dX13_billAt_19 ?_
    refine lv_sipush (v := 209) hx hb dX13_billAt_22 (by decide) ?_
    refine lv_iload_n hx hb dX13_billAt_25 rfl (lv_at hl 1 rfl) ?_
    refine lv_iadd hx hb dX13_billAt_26 ?_
    obtain ⟨k5, hk5, h⟩ := x_rd h
    refine xIald hx hb hK hP 1 0 rfl rfl hk5 dX13_billAt_27 ?_
    obtain ⟨q6, c6, h⟩ := x_call h
    refine xCall (w2 := MW cA h0 q6.2) (xRunV (n := 1) (As := [.int (s0.1 k5)]) (rest := []) ⟨hx, hb, hml, hown, hts⟩ (kX13_done l D cA h0 _ N (s0.1 k5) s0 q6 c6) qco_X13_done qml_X13_60 qin_X13_done qse_X13_done qini_X13 (by decide +kernel) (by rw [← erm]; rfl) hK hP hD [0, 1, 2, 3, 4, 5, 6, 7] rfl rfl (q0 := 0) rfl rfl rfl rfl rfl hl.1 rfl (lv_room (Nat.le_of_ble_eq_true rfl)) dX13_billAt_28 ⟨Nat.zero_le _, Nat.zero_le _⟩) hP hD hS hA [0, 1, 2, 3, 4, 5, 6, 7] [] [0, 1, 2, 3, 4, 5, 6, 7] rfl (wr := []) rfl rfl rfl rfl rfl (fun H locs hP hD hS => ?_)
    refine lv_goto (tgt := 39) hx hb dX13_billAt_31 (by decide) ?_
    exact hJ_J39 q6.1 q6.2 _ _ hP hD hS _ (lv_sub hl [] rfl) h
def fX13_billPlace_L2 (N : Nat) (s0 : MS) (K35 : Unit → Option (Int32)) : Nat → Int32 → Int32 → Option (Int32)
  | 0, _, _ => none
  | n + 1, v1_2, v2_2 =>
    if (s0.1 6) ≤ v2_2 then
      K35 ()
    else
      xrd 229 (209 + v2_2) fun k4 =>
      if (s0.1 k4) = v1_2 then
        some v2_2
      else
        xlet (v2_2 + (1)) fun x6 =>
        fX13_billPlace_L2 N s0 K35 n v1_2 x6
def fX13_billPlace (N : Nat) (a1 : Int32) (s0 : MS) : Option (Int32) :=
  xjoin (fun (u_1 : Unit) =>
      some (-1)
    ) fun K35 =>
  fX13_billPlace_L2 N s0 K35 N a1 0
set_option maxRecDepth 100000 in
set_option maxHeartbeats 4000000 in
theorem kX13_billPlace (l : Launch) (D : va_G) (cA : Nat → ClassId) (h0 : Nat → Nat) (sz N : Nat) (a1 : Int32) (s0 : MS) (q : Int32) (h : fX13_billPlace N a1 s0 = some q) : xM l yX13_billPlace cX13_billPlace 3 (some .int) ({ frames := 0, cells := 0, slots := 0, locals := 0 }) D cA (MW cA h0 s0) sz [.ref (h0 0), .int a1] (some (.int q)) (MW cA h0 s0) := by
  generalize erm : ({ frames := 0, cells := 0, slots := 0, locals := 0 } : Room) = rm
  refine xMet (by decide) (Nat.le_of_ble_eq_true rfl) ?_
  intro p e s m below meth c hx hb hr hlocks hml hts hown hin hK hP A eA hD hS hA hsz ls hl
  have hl : lv_has ls 3 [(0, .ref (h0 0)), (1, .int a1)] := hl
  clear eA
  rw [fX13_billPlace] at h
  refine lv_iconst (v := 0) hx hb dX13_billPlace_0 (by decide) ?_
  refine lv_istore_n (lv' := [(2, .int 0), (0, .ref (h0 0)), (1, .int a1)]) hx hb dX13_billPlace_1 rfl hl (by decide) rfl (fun ls hl => ?_)
  obtain ⟨K35, eK35, h⟩ := x_join h
  have hJ_K35 : ∀ (u_1 : Unit) (H : Heap) (locs : List Loc), va_P D vwCl (MW cA h0 s0) H → va_D A (MW cA h0 s0) → va_S A s.heap H locs → ∀ ls : Array Slot, lv_has ls 3 [] → K35 u_1 = some q → W p l e rm s m ([.ref (h0 0), .int a1] : List Value).toArray below meth c H locs 0 0 (MQ below (xQ D cA A (MW cA h0 s0) (some (.int q))) ([.ref (h0 0), .int a1] : List Value).toArray s 0 0 A) (F0 m 35 ls []) := by
    clear h hP hD hS hl
    intro u_1 H locs hP hD hS ls hl h
    rw [eK35] at h
    refine lv_iconst (v := (-1)) hx hb dX13_billPlace_35 (by decide) ?_
    have h := Option.some.inj h
    subst h
    exact xIret hx hb hr hlocks hP hK hD hS dX13_billPlace_36
  have hL2 : ∀ (n : Nat) (v1_2 : Int32) (v2_2 : Int32) (H : Heap) (locs : List Loc), va_P D vwCl (MW cA h0 s0) H → va_D A (MW cA h0 s0) → va_S A s.heap H locs → ∀ ls : Array Slot, lv_has ls 3 [(0, .ref (h0 0)), (1, .int v1_2), (2, .int v2_2)] → fX13_billPlace_L2 N s0 K35 n v1_2 v2_2 = some q → W p l e rm s m ([.ref (h0 0), .int a1] : List Value).toArray below meth c H locs 0 0 (MQ below (xQ D cA A (MW cA h0 s0) (some (.int q))) ([.ref (h0 0), .int a1] : List Value).toArray s 0 0 A) (F0 m 2 ls []) := by
    clear h hP hD hS hl
    intro n
    induction n with
    | zero => intro v1_2 v2_2 H locs hP hD hS ls hl h; rw [fX13_billPlace_L2] at h; cases h
    | succ n ih =>
      intro v1_2 v2_2 H locs hP hD hS ls hl h
      rw [fX13_billPlace_L2] at h
      refine lv_iload_n hx hb dX13_billPlace_2 rfl (lv_at hl 2 rfl) ?_
      refine lv_aload_n hx hb dX13_billPlace_3 rfl (lv_at hl 0 rfl) ?_
      refine va_get (D := D) (ci := 12) (v := .ref (h0 1)) (C := RX13) (T := TX13) (N := 16) hx hb hts iX13 hown hK hP 0 rfl rfl 0 (by decide) (hts _ qfl_X13_7) (fun _ h9 => h9) rfl dX13_billPlace_4 ?_
      refine lv_bipush (v := 6) hx hb dX13_billPlace_7 (by decide) ?_
      refine xIald hx hb hK hP 1 0 rfl rfl (x_lit (k := 6) (by decide)) dX13_billPlace_9 ?_
      refine lv_icmp_ge (tgt := 35) hx hb dX13_billPlace_10 (by decide) (fun c3 => ?_) (fun c3 => ?_)
      · have h := x_t h c3
        exact hJ_K35 () _ _ hP hD hS _ (lv_sub hl [] rfl) h
      · have h := x_f h c3
        refine lv_aload_n hx hb dX13_billPlace_13 rfl (lv_at hl 0 rfl) ?_
        refine va_get (D := D) (ci := 12) (v := .ref (h0 1)) (C := RX13) (T := TX13) (N := 16) hx hb hts iX13 hown hK hP 0 rfl rfl 0 (by decide) (hts _ qfl_X13_7) (fun _ h9 => h9) rfl dX13_billPlace_14 ?_
        refine lv_sipush (v := 209) hx hb dX13_billPlace_17 (by decide) ?_
        refine lv_iload_n hx hb dX13_billPlace_20 rfl (lv_at hl 2 rfl) ?_
        refine lv_iadd hx hb dX13_billPlace_21 ?_
        obtain ⟨k4, hk4, h⟩ := x_rd h
        refine xIald hx hb hK hP 1 0 rfl rfl hk4 dX13_billPlace_22 ?_
        refine lv_iload_n hx hb dX13_billPlace_23 rfl (lv_at hl 1 rfl) ?_
        refine lv_icmp_ne (tgt := 29) hx hb dX13_billPlace_24 (by decide) (fun c5 => ?_) (fun c5 => ?_)
        · have h := x_f h c5
          obtain ⟨x6, ex6⟩ : ∃ y : Int32, y = v2_2 + (1) := ⟨_, rfl⟩
          have h := x_let h ex6
          refine lv_iinc (v := x6) (lv' := [(2, .int x6), (0, .ref (h0 0)), (1, .int v1_2)]) hx hb dX13_billPlace_29 hl (k := 2) rfl (by rw [ex6]; rfl) (by decide) rfl (fun ls hl => ?_)
          refine lv_goto (tgt := 2) hx hb dX13_billPlace_32 (by decide) ?_
          exact ih v1_2 x6 _ _ hP hD hS _ (lv_sub hl [1, 2, 0] rfl) h
        · have h := x_t h c5
          refine lv_iload_n hx hb dX13_billPlace_27 rfl (lv_at hl 2 rfl) ?_
          have h := Option.some.inj h
          subst h
          exact xIret hx hb hr hlocks hP hK hD hS dX13_billPlace_28
  exact hL2 N a1 0 _ _ hP hD hS _ (lv_sub hl [1, 2, 0] rfl) h
def fX13_openAmount (N : Nat) (a1 : Int32) (s0 : MS) : Option (Int32 × MS) :=
  xcall (fX13_billPlace N a1 s0) fun q1 =>
  xjoin (fun (t0_2 : Int32) (s0_2 : MS) =>
      some (t0_2, s0_2)
    ) fun J33 =>
  if q1 = (-1) then
    xcall (fX13_fails N 1 s0) fun q6 =>
    J33 q6.1 q6.2
  else
    xrd 229 (219 + q1) fun k4 =>
    xcall (fX13_done N (s0.1 k4) s0) fun q5 =>
    J33 q5.1 q5.2
set_option maxRecDepth 100000 in
set_option maxHeartbeats 4000000 in
theorem kX13_openAmount (l : Launch) (D : va_G) (cA : Nat → ClassId) (h0 : Nat → Nat) (sz N : Nat) (a1 : Int32) (s0 : MS) (q : Int32 × MS) (h : fX13_openAmount N a1 s0 = some q) : xM l yX13_openAmount cX13_openAmount 3 (some .int) ({ frames := 1, cells := 0, slots := 0, locals := 22 }) D cA (MW cA h0 s0) sz [.ref (h0 0), .int a1] (some (.int q.1)) (MW cA h0 q.2) := by
  generalize erm : ({ frames := 1, cells := 0, slots := 0, locals := 22 } : Room) = rm
  refine xMet (by decide) (Nat.le_of_ble_eq_true rfl) ?_
  intro p e s m below meth c hx hb hr hlocks hml hts hown hin hK hP A eA hD hS hA hsz ls hl
  have hl : lv_has ls 3 [(0, .ref (h0 0)), (1, .int a1)] := hl
  clear eA
  rw [fX13_openAmount] at h
  refine lv_aload_n hx hb dX13_openAmount_0 rfl (lv_at hl 0 rfl) ?_
  refine lv_iload_n hx hb dX13_openAmount_1 rfl (lv_at hl 1 rfl) ?_
  obtain ⟨q1, c1, h⟩ := x_call h
  refine xCall (w2 := MW cA h0 s0) (xRunV (n := 1) (As := [.int a1]) (rest := []) ⟨hx, hb, hml, hown, hts⟩ (kX13_billPlace l D cA h0 _ N a1 s0 q1 c1) qco_X13_billPlace qml_X13_187 qin_X13_billPlace qse_X13_billPlace qini_X13 (by decide +kernel) (by rw [← erm]; rfl) hK hP hD [0, 1, 2, 3, 4, 5, 6, 7] rfl rfl (q0 := 0) rfl rfl rfl rfl rfl hl.1 rfl (lv_room (Nat.le_of_ble_eq_true rfl)) dX13_openAmount_2 ⟨Nat.zero_le _, Nat.zero_le _⟩) hP hD hS hA [0, 1, 2, 3, 4, 5, 6, 7] [] [0, 1, 2, 3, 4, 5, 6, 7] rfl (wr := []) rfl rfl rfl rfl rfl (fun H locs hP hD hS => ?_)
  refine lv_istore_n (lv' := [(2, .int q1), (0, .ref (h0 0)), (1, .int a1)]) hx hb dX13_openAmount_5 rfl hl (by decide) rfl (fun ls hl => ?_)
  refine lv_iload_n hx hb dX13_openAmount_6 rfl (lv_at hl 0 rfl) ?_
  refine lv_iconst (v := (-1)) hx hb dX13_openAmount_7 (by decide) ?_
  obtain ⟨J33, eJ33, h⟩ := x_join h
  have hJ_J33 : ∀ (t0_2 : Int32) (s0_2 : MS) (H : Heap) (locs : List Loc), va_P D vwCl (MW cA h0 s0_2) H → va_D A (MW cA h0 s0_2) → va_S A s.heap H locs → ∀ ls : Array Slot, lv_has ls 3 [] → J33 t0_2 s0_2 = some q → W p l e rm s m ([.ref (h0 0), .int a1] : List Value).toArray below meth c H locs 0 0 (MQ below (xQ D cA A (MW cA h0 q.2) (some (.int q.1))) ([.ref (h0 0), .int a1] : List Value).toArray s 0 0 A) (F0 m 33 ls [.int t0_2]) := by
    clear h hP hD hS hl
    intro t0_2 s0_2 H locs hP hD hS ls hl h
    rw [eJ33] at h
    have h := Option.some.inj h
    subst h
    exact xIret hx hb hr hlocks hP hK hD hS dX13_openAmount_33
  refine lv_icmp_ne (tgt := 19) hx hb dX13_openAmount_8 (by decide) (fun c3 => ?_) (fun c3 => ?_)
  · have h := x_f h c3
    refine lv_aload_n hx hb dX13_openAmount_19 rfl (lv_at hl 1 rfl) ?_
    refine lv_aload_n hx hb dX13_openAmount_20 rfl (lv_at hl 1 rfl) ?_
    refine va_get (D := D) (ci := 12) (v := .ref (h0 1)) (C := RX13) (T := TX13) (N := 16) hx hb hts iX13 hown hK hP 0 rfl rfl 0 (by decide) (hts _ qfl_X13_7) (fun _ h9 => h9) rfl dX13_openAmount_21 ?_
    refine lv_sipush (v := 219) hx hb dX13_openAmount_24 (by decide) ?_
    refine lv_iload_n hx hb dX13_openAmount_27 rfl (lv_at hl 0 rfl) ?_
    refine lv_iadd hx hb dX13_openAmount_28 ?_
    obtain ⟨k4, hk4, h⟩ := x_rd h
    refine xIald hx hb hK hP 1 0 rfl rfl hk4 dX13_openAmount_29 ?_
    obtain ⟨q5, c5, h⟩ := x_call h
    refine xCall (w2 := MW cA h0 q5.2) (xRunV (n := 1) (As := [.int (s0.1 k4)]) (rest := []) ⟨hx, hb, hml, hown, hts⟩ (kX13_done l D cA h0 _ N (s0.1 k4) s0 q5 c5) qco_X13_done qml_X13_60 qin_X13_done qse_X13_done qini_X13 (by decide +kernel) (by rw [← erm]; rfl) hK hP hD [0, 1, 2, 3, 4, 5, 6, 7] rfl rfl (q0 := 0) rfl rfl rfl rfl rfl hl.1 rfl (lv_room (Nat.le_of_ble_eq_true rfl)) dX13_openAmount_30 ⟨Nat.zero_le _, Nat.zero_le _⟩) hP hD hS hA [0, 1, 2, 3, 4, 5, 6, 7] [] [0, 1, 2, 3, 4, 5, 6, 7] rfl (wr := []) rfl rfl rfl rfl rfl (fun H locs hP hD hS => ?_)
    exact hJ_J33 q5.1 q5.2 _ _ hP hD hS _ (lv_sub hl [] rfl) h
  · have h := x_t h c3
    refine lv_aload_n hx hb dX13_openAmount_11 rfl (lv_at hl 1 rfl) ?_
    refine lv_iconst (v := 1) hx hb dX13_openAmount_12 (by decide) ?_
    obtain ⟨q6, c6, h⟩ := x_call h
    refine xCall (w2 := MW cA h0 q6.2) (xRunV (n := 1) (As := [.int 1]) (rest := []) ⟨hx, hb, hml, hown, hts⟩ (kX13_fails l D cA h0 _ N 1 s0 q6 c6) qco_X13_fails qml_X13_57 qin_X13_fails qse_X13_fails qini_X13 (by decide +kernel) (by rw [← erm]; rfl) hK hP hD [0, 1, 2, 3, 4, 5, 6, 7] rfl rfl (q0 := 0) rfl rfl rfl rfl rfl hl.1 rfl (lv_room (Nat.le_of_ble_eq_true rfl)) dX13_openAmount_13 ⟨Nat.zero_le _, Nat.zero_le _⟩) hP hD hS hA [0, 1, 2, 3, 4, 5, 6, 7] [] [0, 1, 2, 3, 4, 5, 6, 7] rfl (wr := []) rfl rfl rfl rfl rfl (fun H locs hP hD hS => ?_)
    refine lv_goto (tgt := 33) hx hb dX13_openAmount_16 (by decide) ?_
    exact hJ_J33 q6.1 q6.2 _ _ hP hD hS _ (lv_sub hl [] rfl) h
def fX13_openTotal (N : Nat)  (s0 : MS) : Option (Int32 × MS) :=
  xcall (fX13_owed N s0) fun q1 =>
  xcall (fX13_done N q1 s0) fun q2 =>
  some (q2.1, q2.2)
set_option maxRecDepth 100000 in
set_option maxHeartbeats 4000000 in
theorem kX13_openTotal (l : Launch) (D : va_G) (cA : Nat → ClassId) (h0 : Nat → Nat) (sz N : Nat)  (s0 : MS) (q : Int32 × MS) (h : fX13_openTotal N s0 = some q) : xM l yX13_openTotal cX13_openTotal 1 (some .int) ({ frames := 1, cells := 0, slots := 0, locals := 22 }) D cA (MW cA h0 s0) sz [.ref (h0 0)] (some (.int q.1)) (MW cA h0 q.2) := by
  generalize erm : ({ frames := 1, cells := 0, slots := 0, locals := 22 } : Room) = rm
  refine xMet (by decide) (Nat.le_of_ble_eq_true rfl) ?_
  intro p e s m below meth c hx hb hr hlocks hml hts hown hin hK hP A eA hD hS hA hsz ls hl
  have hl : lv_has ls 1 [(0, .ref (h0 0))] := hl
  clear eA
  rw [fX13_openTotal] at h
  refine lv_aload_n hx hb dX13_openTotal_0 rfl (lv_at hl 0 rfl) ?_
  refine lv_aload_n hx hb dX13_openTotal_1 rfl (lv_at hl 0 rfl) ?_
  obtain ⟨q1, c1, h⟩ := x_call h
  refine xCall (w2 := MW cA h0 s0) (xRunV (n := 0) (As := []) (rest := [.ref (h0 0)]) ⟨hx, hb, hml, hown, hts⟩ (kX13_owed l D cA h0 _ N s0 q1 c1) qco_X13_owed qml_X13_146 qin_X13_owed qse_X13_owed qini_X13 (by decide +kernel) (by rw [← erm]; rfl) hK hP hD [0, 1, 2, 3, 4, 5, 6, 7] rfl rfl (q0 := 0) rfl rfl rfl rfl rfl hl.1 rfl (lv_room (Nat.le_of_ble_eq_true rfl)) dX13_openTotal_2 ⟨Nat.zero_le _, Nat.zero_le _⟩) hP hD hS hA [0, 1, 2, 3, 4, 5, 6, 7] [] [0, 1, 2, 3, 4, 5, 6, 7] rfl (wr := []) rfl rfl rfl rfl rfl (fun H locs hP hD hS => ?_)
  obtain ⟨q2, c2, h⟩ := x_call h
  refine xCall (w2 := MW cA h0 q2.2) (xRunV (n := 1) (As := [.int q1]) (rest := []) ⟨hx, hb, hml, hown, hts⟩ (kX13_done l D cA h0 _ N q1 s0 q2 c2) qco_X13_done qml_X13_60 qin_X13_done qse_X13_done qini_X13 (by decide +kernel) (by rw [← erm]; rfl) hK hP hD [0, 1, 2, 3, 4, 5, 6, 7] rfl rfl (q0 := 0) rfl rfl rfl rfl rfl hl.1 rfl (lv_room (Nat.le_of_ble_eq_true rfl)) dX13_openTotal_5 ⟨Nat.zero_le _, Nat.zero_le _⟩) hP hD hS hA [0, 1, 2, 3, 4, 5, 6, 7] [] [0, 1, 2, 3, 4, 5, 6, 7] rfl (wr := []) rfl rfl rfl rfl rfl (fun H locs hP hD hS => ?_)
  have h := Option.some.inj h
  subst h
  exact xIret hx hb hr hlocks hP hK hD hS dX13_openTotal_8
def fX13_isMatched (N : Nat) (a1 : Int32) (s0 : MS) : Option (Int32 × MS) :=
  xcall (fX13_in N a1 1 999) fun q1 =>
  xjoin (fun (t0_2 : Int32) (v1_2 : Int32) (s0_2 : MS) =>
      xjoin (fun (t0_3 : Int32) (s0_3 : MS) =>
          xnz (xnar .boolean t0_3) <|
          some (t0_3, s0_3)
        ) fun J40 =>
      xjoin (fun (s0_5 : MS) =>
          J40 0 s0_5
        ) fun J39 =>
      if t0_2 = 0 then
        xcall (fX13_chosen N v1_2 ((Ms12 s0_2 t0_2))) fun q7 =>
        if q7 ≤ 0 then
          J39 ((Ms12 s0_2 t0_2))
        else
          J40 1 ((Ms12 s0_2 t0_2))
      else
        J39 ((Ms12 s0_2 t0_2))
    ) fun J17 =>
  if q1 = 0 then
    J17 1 a1 s0
  else
    J17 0 a1 s0
set_option maxRecDepth 100000 in
set_option maxHeartbeats 4000000 in
theorem kX13_isMatched (l : Launch) (D : va_G) (cA : Nat → ClassId) (h0 : Nat → Nat) (sz N : Nat) (a1 : Int32) (s0 : MS) (q : Int32 × MS) (h : fX13_isMatched N a1 s0 = some q) : xM l yX13_isMatched cX13_isMatched 2 (some .boolean) ({ frames := 3, cells := 0, slots := 0, locals := 68 }) D cA (MW cA h0 s0) sz [.ref (h0 0), .int a1] (some (.int q.1)) (MW cA h0 q.2) := by
  generalize erm : ({ frames := 3, cells := 0, slots := 0, locals := 68 } : Room) = rm
  refine xMet (by decide) (Nat.le_of_ble_eq_true rfl) ?_
  intro p e s m below meth c hx hb hr hlocks hml hts hown hin hK hP A eA hD hS hA hsz ls hl
  have hl : lv_has ls 2 [(0, .ref (h0 0)), (1, .int a1)] := hl
  clear eA
  rw [fX13_isMatched] at h
  refine lv_aload_n hx hb dX13_isMatched_0 rfl (lv_at hl 0 rfl) ?_
  refine lv_iload_n hx hb dX13_isMatched_1 rfl (lv_at hl 1 rfl) ?_
  refine lv_iconst (v := 1) hx hb dX13_isMatched_2 (by decide) ?_
  refine lv_sipush (v := 999) hx hb dX13_isMatched_3 (by decide) ?_
  obtain ⟨q1, c1, h⟩ := x_call h
  refine xCall (w2 := MW cA h0 s0) (xRunS (n := 3) (As := [.int a1, .int 1, .int 999]) (rest := [.ref (h0 0)]) ⟨hx, hb, hml, hown, hts⟩ (kX13_in l D cA  _ N a1 1 999 q1 c1) qco_X13_in qml_X13_49 qst_X13_in qini_X13 (by decide +kernel) (by rw [← erm]; rfl) hK hP hD [] rfl rfl rfl rfl hl.1 rfl (lv_room (Nat.le_of_ble_eq_true rfl)) dX13_isMatched_6 ⟨Nat.zero_le _, Nat.zero_le _⟩) hP hD hS hA [] [0, 1, 2, 3, 4, 5, 6, 7] [0, 1, 2, 3, 4, 5, 6, 7] rfl (wr := [(h0 0, .inr (12, [.ref (h0 1), .ref (h0 2), .ref (h0 3), .int (s0.2.2.2.1), .ref (h0 4), .int (s0.2.2.2.2.2.1), .ref (h0 5), .int (s0.2.2.2.2.2.2.2.1), .int (s0.2.2.2.2.2.2.2.2.1), .int (s0.2.2.2.2.2.2.2.2.2.1), .ref (h0 6), .int (s0.2.2.2.2.2.2.2.2.2.2.2.1), .int (s0.2.2.2.2.2.2.2.2.2.2.2.2.1), .int (s0.2.2.2.2.2.2.2.2.2.2.2.2.2.1), .int (s0.2.2.2.2.2.2.2.2.2.2.2.2.2.2.1), .ref (h0 7)])), (h0 1, .inl (cA 0, 229, .inl (s0.1))), (h0 2, .inl (cA 0, 229, .inl (s0.2.1))), (h0 3, .inl (cA 0, 1832, .inl (s0.2.2.1))), (h0 4, .inl (cA 0, 229, .inl (s0.2.2.2.2.1))), (h0 5, .inl (cA 1, 60, .inl (s0.2.2.2.2.2.2.1))), (h0 6, .inl (cA 1, 60, .inl (s0.2.2.2.2.2.2.2.2.2.2.1))), (h0 7, .inl (cA 0, 240, .inl (s0.2.2.2.2.2.2.2.2.2.2.2.2.2.2.2)))]) rfl rfl rfl rfl rfl (fun H locs hP hD hS => ?_)
  obtain ⟨J17, eJ17, h⟩ := x_join h
  have hJ_J17 : ∀ (t0_2 : Int32) (v1_2 : Int32) (s0_2 : MS) (H : Heap) (locs : List Loc), va_P D vwCl (MW cA h0 s0_2) H → va_D A (MW cA h0 s0_2) → va_S A s.heap H locs → ∀ ls : Array Slot, lv_has ls 2 [(0, .ref (h0 0)), (1, .int v1_2)] → J17 t0_2 v1_2 s0_2 = some q → W p l e rm s m ([.ref (h0 0), .int a1] : List Value).toArray below meth c H locs 0 0 (MQ below (xQ D cA A (MW cA h0 q.2) (some (.int q.1))) ([.ref (h0 0), .int a1] : List Value).toArray s 0 0 A) (F0 m 17 ls [.int t0_2, .ref (h0 0)]) := by
    clear h hP hD hS hl
    intro t0_2 v1_2 s0_2 H locs hP hD hS ls hl h
    rw [eJ17] at h
    refine va_put (D := D) (ci := 12) (v := .int t0_2) (ty := .int) (C := RX13) (T := TX13) (N := 16) hx hb hts iX13 tyX13 tyX13_ok nmX13 hown hK hP hD hS 0 rfl rfl 12 (by decide) (hts _ qfl_X13_39) (fun _ h9 => h9) rfl (by decide +kernel) rfl rfl (Nat.le_of_ble_eq_true rfl) dX13_isMatched_17 (fun H locs hP hD hS => ?_)
    have hP : va_P D vwCl (MW cA h0 ((Ms12 s0_2 t0_2))) H := hP
    have hD : va_D A (MW cA h0 ((Ms12 s0_2 t0_2))) := hD
    refine lv_aload_n hx hb dX13_isMatched_20 rfl (lv_at hl 0 rfl) ?_
    refine va_get (D := D) (ci := 12) (v := .int t0_2) (C := RX13) (T := TX13) (N := 16) hx hb hts iX13 hown hK hP 0 rfl rfl 12 (by decide) (hts _ qfl_X13_39) (fun _ h9 => h9) rfl dX13_isMatched_21 ?_
    obtain ⟨J40, eJ40, h⟩ := x_join h
    have hJ_J40 : ∀ (t0_3 : Int32) (s0_3 : MS) (H : Heap) (locs : List Loc), va_P D vwCl (MW cA h0 s0_3) H → va_D A (MW cA h0 s0_3) → va_S A s.heap H locs → ∀ ls : Array Slot, lv_has ls 2 [] → J40 t0_3 s0_3 = some q → W p l e rm s m ([.ref (h0 0), .int a1] : List Value).toArray below meth c H locs 0 0 (MQ below (xQ D cA A (MW cA h0 q.2) (some (.int q.1))) ([.ref (h0 0), .int a1] : List Value).toArray s 0 0 A) (F0 m 40 ls [.int t0_3]) := by
      clear h hP hD hS hl
      intro t0_3 s0_3 H locs hP hD hS ls hl h
      rw [eJ40] at h
      obtain ⟨z4, h⟩ := x_nz h
      have h := Option.some.inj h
      subst h
      exact xZret hx hb hr hlocks (xnar_n z4) hP hK hD hS dX13_isMatched_40
    obtain ⟨J39, eJ39, h⟩ := x_join h
    have hJ_J39 : ∀ (s0_5 : MS) (H : Heap) (locs : List Loc), va_P D vwCl (MW cA h0 s0_5) H → va_D A (MW cA h0 s0_5) → va_S A s.heap H locs → ∀ ls : Array Slot, lv_has ls 2 [] → J39 s0_5 = some q → W p l e rm s m ([.ref (h0 0), .int a1] : List Value).toArray below meth c H locs 0 0 (MQ below (xQ D cA A (MW cA h0 q.2) (some (.int q.1))) ([.ref (h0 0), .int a1] : List Value).toArray s 0 0 A) (F0 m 39 ls []) := by
      clear h hP hD hS hl
      intro s0_5 H locs hP hD hS ls hl h
      rw [eJ39] at h
      refine lv_iconst (v := 0) hx hb dX13_isMatched_39 (by decide) ?_
      exact hJ_J40 0 s0_5 _ _ hP hD hS _ (lv_sub hl [] rfl) h
    refine lv_if_ne (tgt := 39) hx hb dX13_isMatched_24 (by decide) (fun c6 => ?_) (fun c6 => ?_)
    · have h := x_f h c6
      exact hJ_J39 ((Ms12 s0_2 t0_2)) _ _ hP hD hS _ (lv_sub hl [] rfl) h
    · have h := x_t h c6
      refine lv_aload_n hx hb dX13_isMatched_27 rfl (lv_at hl 0 rfl) ?_
      refine lv_iload_n hx hb dX13_isMatched_28 rfl (lv_at hl 1 rfl) ?_
      obtain ⟨q7, c7, h⟩ := x_call h
      refine xCall (w2 := MW cA h0 ((Ms12 s0_2 t0_2))) (xRunV (n := 1) (As := [.int v1_2]) (rest := []) ⟨hx, hb, hml, hown, hts⟩ (kX13_chosen l D cA h0 _ N v1_2 ((Ms12 s0_2 t0_2)) q7 c7) qco_X13_chosen qml_X13_149 qin_X13_chosen qse_X13_chosen qini_X13 (by decide +kernel) (by rw [← erm]; rfl) hK hP hD [0, 1, 2, 3, 4, 5, 6, 7] rfl rfl (q0 := 0) rfl rfl rfl rfl rfl hl.1 rfl (lv_room (Nat.le_of_ble_eq_true rfl)) dX13_isMatched_29 ⟨Nat.zero_le _, Nat.zero_le _⟩) hP hD hS hA [0, 1, 2, 3, 4, 5, 6, 7] [] [0, 1, 2, 3, 4, 5, 6, 7] rfl (wr := []) rfl rfl rfl rfl rfl (fun H locs hP hD hS => ?_)
      refine lv_if_le (tgt := 39) hx hb dX13_isMatched_32 (by decide) (fun c8 => ?_) (fun c8 => ?_)
      · have h := x_t h c8
        exact hJ_J39 ((Ms12 s0_2 t0_2)) _ _ hP hD hS _ (lv_sub hl [] rfl) h
      · have h := x_f h c8
        refine lv_iconst (v := 1) hx hb dX13_isMatched_35 (by decide) ?_
        refine lv_goto (tgt := 40) hx hb dX13_isMatched_36 (by decide) ?_
        exact hJ_J40 1 ((Ms12 s0_2 t0_2)) _ _ hP hD hS _ (lv_sub hl [] rfl) h
  refine lv_if_eq (tgt := 16) hx hb dX13_isMatched_9 (by decide) (fun c9 => ?_) (fun c9 => ?_)
  · have h := x_t h c9
    refine lv_iconst (v := 1) hx hb dX13_isMatched_16 (by decide) ?_
    exact hJ_J17 1 a1 s0 _ _ hP hD hS _ (lv_sub hl [0, 1] rfl) h
  · have h := x_f h c9
    refine lv_iconst (v := 0) hx hb dX13_isMatched_12 (by decide) ?_
    refine lv_goto (tgt := 17) hx hb dX13_isMatched_13 (by decide) ?_
    exact hJ_J17 0 a1 s0 _ _ hP hD hS _ (lv_sub hl [0, 1] rfl) h
def fX13_isMatchedBySets (N : Nat) (a1 : Int32) (s0 : MS) : Option (Int32 × MS) :=
  xcall (fX13_isMatched N a1 s0) fun q1 =>
  xnz (xnar .boolean q1.1) <|
  some (q1.1, q1.2)
set_option maxRecDepth 100000 in
set_option maxHeartbeats 4000000 in
theorem kX13_isMatchedBySets (l : Launch) (D : va_G) (cA : Nat → ClassId) (h0 : Nat → Nat) (sz N : Nat) (a1 : Int32) (s0 : MS) (q : Int32 × MS) (h : fX13_isMatchedBySets N a1 s0 = some q) : xM l yX13_isMatchedBySets cX13_isMatchedBySets 2 (some .boolean) ({ frames := 4, cells := 0, slots := 0, locals := 89 }) D cA (MW cA h0 s0) sz [.ref (h0 0), .int a1] (some (.int q.1)) (MW cA h0 q.2) := by
  generalize erm : ({ frames := 4, cells := 0, slots := 0, locals := 89 } : Room) = rm
  refine xMet (by decide) (Nat.le_of_ble_eq_true rfl) ?_
  intro p e s m below meth c hx hb hr hlocks hml hts hown hin hK hP A eA hD hS hA hsz ls hl
  have hl : lv_has ls 2 [(0, .ref (h0 0)), (1, .int a1)] := hl
  clear eA
  rw [fX13_isMatchedBySets] at h
  refine lv_aload_n hx hb dX13_isMatchedBySets_0 rfl (lv_at hl 0 rfl) ?_
  refine lv_iload_n hx hb dX13_isMatchedBySets_1 rfl (lv_at hl 1 rfl) ?_
  obtain ⟨q1, c1, h⟩ := x_call h
  refine xCall (w2 := MW cA h0 q1.2) (xRunV (n := 1) (As := [.int a1]) (rest := []) ⟨hx, hb, hml, hown, hts⟩ (kX13_isMatched l D cA h0 _ N a1 s0 q1 c1) qco_X13_isMatched qml_X13_190 qin_X13_isMatched qse_X13_isMatched qini_X13 (by decide +kernel) (by rw [← erm]; rfl) hK hP hD [0, 1, 2, 3, 4, 5, 6, 7] rfl rfl (q0 := 0) rfl rfl rfl rfl rfl hl.1 rfl (lv_room (Nat.le_of_ble_eq_true rfl)) dX13_isMatchedBySets_2 ⟨Nat.zero_le _, Nat.zero_le _⟩) hP hD hS hA [0, 1, 2, 3, 4, 5, 6, 7] [] [0, 1, 2, 3, 4, 5, 6, 7] rfl (wr := []) rfl rfl rfl rfl rfl (fun H locs hP hD hS => ?_)
  obtain ⟨z2, h⟩ := x_nz h
  have h := Option.some.inj h
  subst h
  exact xZret hx hb hr hlocks (xnar_n z2) hP hK hD hS dX13_isMatchedBySets_5
