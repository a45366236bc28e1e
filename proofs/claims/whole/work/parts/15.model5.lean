/-! the reference, method by method: what it computes, and that its bytes compute it -/
def fX13_needs (N : Nat) (a1 : Int32) (s0 : MS) : Option (MS) :=
  xjoin (fun (t0_1 : Int32) (s0_1 : MS) =>
      xnz (xbit t0_1) <|
      xjoin (fun (t0_3 : Int32) (t1_3 : Int32) (s0_3 : MS) =>
          xlet (t1_3 + t0_3) fun x4 =>
          some ((Ms13 s0_3 x4))
        ) fun J41 =>
      if t0_1 = 0 then
        J41 1 s0_1.2.2.2.2.2.2.2.2.2.2.2.2.2.1 ((Ms14 s0_1 t0_1))
      else
        J41 0 s0_1.2.2.2.2.2.2.2.2.2.2.2.2.2.1 ((Ms14 s0_1 t0_1))
    ) fun J21 =>
  xjoin (fun (s0_6 : MS) =>
      J21 1 s0_6
    ) fun J16 =>
  if s0.2.2.2.2.2.2.2.2.2.2.2.2.2.2.1 = 0 then
    xcall (fX13_here N s0) fun q8 =>
    if q8 = a1 then
      J21 0 s0
    else
      J16 s0
  else
    J16 s0
set_option maxRecDepth 100000 in
set_option maxHeartbeats 4000000 in
theorem kX13_needs (l : Launch) (D : va_G) (cA : Nat → ClassId) (h0 : Nat → Nat) (sz N : Nat) (a1 : Int32) (s0 : MS) (q : MS) (h : fX13_needs N a1 s0 = some q) : xM l yX13_needs cX13_needs 2 none ({ frames := 1, cells := 0, slots := 0, locals := 20 }) D cA (MW cA h0 s0) sz [.ref (h0 0), .int a1] (none) (MW cA h0 q) := by
  generalize erm : ({ frames := 1, cells := 0, slots := 0, locals := 20 } : Room) = rm
  refine xMet (by decide) (Nat.le_of_ble_eq_true rfl) ?_
  intro p e s m below meth c hx hb hr hlocks hml hts hown hin hK hP A eA hD hS hA hsz ls hl
  have hl : lv_has ls 2 [(0, .ref (h0 0)), (1, .int a1)] := hl
  clear eA
  rw [fX13_needs] at h
  refine lv_aload_n hx hb dX13_needs_0 rfl (lv_at hl 0 rfl) ?_
  refine lv_aload_n hx hb dX13_needs_1 rfl (lv_at hl 0 rfl) ?_
  refine va_get (D := D) (ci := 12) (v := .int s0.2.2.2.2.2.2.2.2.2.2.2.2.2.2.1) (C := RX13) (T := TX13) (N := 16) hx hb hts iX13 hown hK hP 0 rfl rfl 14 (by decide) (hts _ qfl_X13_202) (fun _ h9 => h9) rfl dX13_needs_2 ?_
  obtain ⟨J21, eJ21, h⟩ := x_join h
  have hJ_J21 : ∀ (t0_1 : Int32) (s0_1 : MS) (H : Heap) (locs : List Loc), va_P D vwCl (MW cA h0 s0_1) H → va_D A (MW cA h0 s0_1) → va_S A s.heap H locs → ∀ ls : Array Slot, lv_has ls 2 [(0, .ref (h0 0))] → J21 t0_1 s0_1 = some q → W p l e rm s m ([.ref (h0 0), .int a1] : List Value).toArray below meth c H locs 0 0 (MQ below (xQ D cA A (MW cA h0 q) (none)) ([.ref (h0 0), .int a1] : List Value).toArray s 0 0 A) (F0 m 21 ls [.int t0_1, .ref (h0 0)]) := by
    clear h hP hD hS hl
    intro t0_1 s0_1 H locs hP hD hS ls hl h
    rw [eJ21] at h
    obtain ⟨z2, h⟩ := x_nz h
    refine va_put (D := D) (ci := 12) (v := .int t0_1) (ty := .boolean) (C := RX13) (T := TX13) (N := 16) hx hb hts iX13 tyX13 tyX13_ok nmX13 hown hK hP hD hS 0 rfl rfl 14 (by decide) (hts _ qfl_X13_202) (fun _ h9 => h9) rfl (by decide +kernel) (xbit_n z2) (xbit_f z2) (Nat.le_of_ble_eq_true rfl) dX13_needs_21 (fun H locs hP hD hS => ?_)
    have hP : va_P D vwCl (MW cA h0 ((Ms14 s0_1 t0_1))) H := hP
    have hD : va_D A (MW cA h0 ((Ms14 s0_1 t0_1))) := hD
    refine lv_aload_n hx hb dX13_needs_24 rfl (lv_at hl 0 rfl) ?_
    refine lv_dup hx hb dX13_needs_25 rfl ?_
    refine va_get (D := D) (ci := 12) (v := .int s0_1.2.2.2.2.2.2.2.2.2.2.2.2.2.1) (C := RX13) (T := TX13) (N := 16) hx hb hts iX13 hown hK hP 0 rfl rfl 13 (by decide) (hts _ qfl_X13_199) (fun _ h9 => h9) rfl dX13_needs_26 ?_
    refine lv_aload_n hx hb dX13_needs_29 rfl (lv_at hl 0 rfl) ?_
    refine va_get (D := D) (ci := 12) (v := .int t0_1) (C := RX13) (T := TX13) (N := 16) hx hb hts iX13 hown hK hP 0 rfl rfl 14 (by decide) (hts _ qfl_X13_202) (fun _ h9 => h9) rfl dX13_needs_30 ?_
    obtain ⟨J41, eJ41, h⟩ := x_join h
    have hJ_J41 : ∀ (t0_3 : Int32) (t1_3 : Int32) (s0_3 : MS) (H : Heap) (locs : List Loc), va_P D vwCl (MW cA h0 s0_3) H → va_D A (MW cA h0 s0_3) → va_S A s.heap H locs → ∀ ls : Array Slot, lv_has ls 2 [] → J41 t0_3 t1_3 s0_3 = some q → W p l e rm s m ([.ref (h0 0), .int a1] : List Value).toArray below meth c H locs 0 0 (MQ below (xQ D cA A (MW cA h0 q) (none)) ([.ref (h0 0), .int a1] : List Value).toArray s 0 0 A) (F0 m 41 ls [.int t0_3, .int t1_3, .ref (h0 0)]) := by
      clear h hP hD hS hl
      intro t0_3 t1_3 s0_3 H locs hP hD hS ls hl h
      rw [eJ41] at h
      refine lv_iadd hx hb dX13_needs_41 ?_
      refine lv_topi (fun x4 ex4 => ?_)
      have h := x_let h ex4
      refine va_put (D := D) (ci := 12) (v := .int x4) (ty := .int) (C := RX13) (T := TX13) (N := 16) hx hb hts iX13 tyX13 tyX13_ok nmX13 hown hK hP hD hS 0 rfl rfl 13 (by decide) (hts _ qfl_X13_199) (fun _ h9 => h9) rfl (by decide +kernel) rfl rfl (Nat.le_of_ble_eq_true rfl) dX13_needs_42 (fun H locs hP hD hS => ?_)
      have hP : va_P D vwCl (MW cA h0 ((Ms13 s0_3 x4))) H := hP
      have hD : va_D A (MW cA h0 ((Ms13 s0_3 x4))) := hD
      have h := Option.some.inj h
      subst h
      exact xVret hx hb hr hlocks hP hK hD hS dX13_needs_45
    refine lv_if_eq (tgt := 40) hx hb dX13_needs_33 (by decide) (fun c5 => ?_) (fun c5 => ?_)
    · have h := x_t h c5
      refine lv_iconst (v := 1) hx hb dX13_needs_40 (by decide) ?_
      exact hJ_J41 1 s0_1.2.2.2.2.2.2.2.2.2.2.2.2.2.1 ((Ms14 s0_1 t0_1)) _ _ hP hD hS _ (lv_sub hl [] rfl) h
    · have h := x_f h c5
      refine lv_iconst (v := 0) hx hb dX13_needs_36 (by decide) ?_
      refine lv_goto (tgt := 41) hx hb dX13_needs_37 (by decide) ?_
      exact hJ_J41 0 s0_1.2.2.2.2.2.2.2.2.2.2.2.2.2.1 ((Ms14 s0_1 t0_1)) _ _ hP hD hS _ (lv_sub hl [] rfl) h
  obtain ⟨J16, eJ16, h⟩ := x_join h
  have hJ_J16 : ∀ (s0_6 : MS) (H : Heap) (locs : List Loc), va_P D vwCl (MW cA h0 s0_6) H → va_D A (MW cA h0 s0_6) → va_S A s.heap H locs → ∀ ls : Array Slot, lv_has ls 2 [(0, .ref (h0 0))] → J16 s0_6 = some q → W p l e rm s m ([.ref (h0 0), .int a1] : List Value).toArray below meth c H locs 0 0 (MQ below (xQ D cA A (MW cA h0 q) (none)) ([.ref (h0 0), .int a1] : List Value).toArray s 0 0 A) (F0 m 16 ls [.ref (h0 0)]) := by
    clear h hP hD hS hl
    intro s0_6 H locs hP hD hS ls hl h
    rw [eJ16] at h
    refine lv_iconst (v := 1) hx hb dX13_needs_16 (by decide) ?_
    refine lv_goto (tgt := 21) hx hb dX13_needs_17 (by decide) ?_
    exact hJ_J21 1 s0_6 _ _ hP hD hS _ (lv_sub hl [0] rfl) h
  refine lv_if_ne (tgt := 16) hx hb dX13_needs_5 (by decide) (fun c7 => ?_) (fun c7 => ?_)
  · have h := x_f h c7
    exact hJ_J16 s0 _ _ hP hD hS _ (lv_sub hl [0] rfl) h
  · have h := x_t h c7
    refine lv_aload_n hx hb dX13_needs_8 rfl (lv_at hl 0 rfl) ?_
    obtain ⟨q8, c8, h⟩ := x_call h
    refine xCall (w2 := MW cA h0 s0) (xRunV (n := 0) (As := []) (rest := [.ref (h0 0)]) ⟨hx, hb, hml, hown, hts⟩ (kX13_here l D cA h0 _ N s0 q8 c8) qco_X13_here qml_X13_206 qin_X13_here qse_X13_here qini_X13 (by decide +kernel) (by rw [← erm]; rfl) hK hP hD [0, 1, 2, 3, 4, 5, 6, 7] rfl rfl (q0 := 0) rfl rfl rfl rfl rfl hl.1 rfl (lv_room (Nat.le_of_ble_eq_true rfl)) dX13_needs_9 ⟨Nat.zero_le _, Nat.zero_le _⟩) hP hD hS hA [0, 1, 2, 3, 4, 5, 6, 7] [] [0, 1, 2, 3, 4, 5, 6, 7] rfl (wr := []) rfl rfl rfl rfl rfl (fun H locs hP hD hS => ?_)
    refine lv_iload_n hx hb dX13_needs_12 rfl (lv_at hl 1 rfl) ?_
    refine lv_icmp_eq (tgt := 20) hx hb dX13_needs_13 (by decide) (fun c9 => ?_) (fun c9 => ?_)
    · have h := x_t h c9
      refine lv_iconst (v := 0) hx hb dX13_needs_20 (by decide) ?_
      exact hJ_J21 0 s0 _ _ hP hD hS _ (lv_sub hl [0] rfl) h
    · have h := x_f h c9
      exact hJ_J16 s0 _ _ hP hD hS _ (lv_sub hl [0] rfl) h
def fX13_needsThree (N : Nat) (a1 : Int32) (a2 : Int32) (a3 : Int32) (s0 : MS) : Option (MS) :=
  xcall (fX13_needs N a1 s0) fun q1 =>
  xcall (fX13_needs N a2 q1) fun q2 =>
  xcall (fX13_needs N a3 q2) fun q3 =>
  some q3
set_option maxRecDepth 100000 in
set_option maxHeartbeats 4000000 in
theorem kX13_needsThree (l : Launch) (D : va_G) (cA : Nat → ClassId) (h0 : Nat → Nat) (sz N : Nat) (a1 : Int32) (a2 : Int32) (a3 : Int32) (s0 : MS) (q : MS) (h : fX13_needsThree N a1 a2 a3 s0 = some q) : xM l yX13_needsThree cX13_needsThree 4 none ({ frames := 2, cells := 0, slots := 0, locals := 41 }) D cA (MW cA h0 s0) sz [.ref (h0 0), .int a1, .int a2, .int a3] (none) (MW cA h0 q) := by
  generalize erm : ({ frames := 2, cells := 0, slots := 0, locals := 41 } : Room) = rm
  refine xMet (by decide) (Nat.le_of_ble_eq_true rfl) ?_
  intro p e s m below meth c hx hb hr hlocks hml hts hown hin hK hP A eA hD hS hA hsz ls hl
  have hl : lv_has ls 4 [(0, .ref (h0 0)), (1, .int a1), (2, .int a2), (3, .int a3)] := hl
  clear eA
  rw [fX13_needsThree] at h
  refine lv_aload_n hx hb dX13_needsThree_0 rfl (lv_at hl 0 rfl) ?_
  refine lv_iload_n hx hb dX13_needsThree_1 rfl (lv_at hl 1 rfl) ?_
  obtain ⟨q1, c1, h⟩ := x_call h
  refine xCall (w2 := MW cA h0 q1) (xRunV (n := 1) (As := [.int a1]) (rest := []) ⟨hx, hb, hml, hown, hts⟩ (kX13_needs l D cA h0 _ N a1 s0 q1 c1) qco_X13_needs qml_X13_209 qin_X13_needs qse_X13_needs qini_X13 (by decide +kernel) (by rw [← erm]; rfl) hK hP hD [0, 1, 2, 3, 4, 5, 6, 7] rfl rfl (q0 := 0) rfl rfl rfl rfl rfl hl.1 rfl (lv_room (Nat.le_of_ble_eq_true rfl)) dX13_needsThree_2 ⟨Nat.zero_le _, Nat.zero_le _⟩) hP hD hS hA [0, 1, 2, 3, 4, 5, 6, 7] [] [0, 1, 2, 3, 4, 5, 6, 7] rfl (wr := []) rfl rfl rfl rfl rfl (fun H locs hP hD hS => ?_)
  refine lv_aload_n hx hb dX13_needsThree_5 rfl (lv_at hl 0 rfl) ?_
  refine lv_iload_n hx hb dX13_needsThree_6 rfl (lv_at hl 2 rfl) ?_
  obtain ⟨q2, c2, h⟩ := x_call h
  refine xCall (w2 := MW cA h0 q2) (xRunV (n := 1) (As := [.int a2]) (rest := []) ⟨hx, hb, hml, hown, hts⟩ (kX13_needs l D cA h0 _ N a2 q1 q2 c2) qco_X13_needs qml_X13_209 qin_X13_needs qse_X13_needs qini_X13 (by decide +kernel) (by rw [← erm]; rfl) hK hP hD [0, 1, 2, 3, 4, 5, 6, 7] rfl rfl (q0 := 0) rfl rfl rfl rfl rfl hl.1 rfl (lv_room (Nat.le_of_ble_eq_true rfl)) dX13_needsThree_7 ⟨Nat.zero_le _, Nat.zero_le _⟩) hP hD hS hA [0, 1, 2, 3, 4, 5, 6, 7] [] [0, 1, 2, 3, 4, 5, 6, 7] rfl (wr := []) rfl rfl rfl rfl rfl (fun H locs hP hD hS => ?_)
  refine lv_aload_n hx hb dX13_needsThree_10 rfl (lv_at hl 0 rfl) ?_
  refine lv_iload_n hx hb dX13_needsThree_11 rfl (lv_at hl 3 rfl) ?_
  obtain ⟨q3, c3, h⟩ := x_call h
  refine xCall (w2 := MW cA h0 q3) (xRunV (n := 1) (As := [.int a3]) (rest := []) ⟨hx, hb, hml, hown, hts⟩ (kX13_needs l D cA h0 _ N a3 q2 q3 c3) qco_X13_needs qml_X13_209 qin_X13_needs qse_X13_needs qini_X13 (by decide +kernel) (by rw [← erm]; rfl) hK hP hD [0, 1, 2, 3, 4, 5, 6, 7] rfl rfl (q0 := 0) rfl rfl rfl rfl rfl hl.1 rfl (lv_room (Nat.le_of_ble_eq_true rfl)) dX13_needsThree_12 ⟨Nat.zero_le _, Nat.zero_le _⟩) hP hD hS hA [0, 1, 2, 3, 4, 5, 6, 7] [] [0, 1, 2, 3, 4, 5, 6, 7] rfl (wr := []) rfl rfl rfl rfl rfl (fun H locs hP hD hS => ?_)
  have h := Option.some.inj h
  subst h
  exact xVret hx hb hr hlocks hP hK hD hS dX13_needsThree_15
def fX13_digits_L40 (N : Nat) (K95 : Int32 → MS → Option (Int32 × MS)) : Nat → Int32 → Int32 → Int32 → MS → Option (Int32 × MS)
  | 0, _, _, _, _ => none
  | n + 1, v1_5, v2_5, v3_5, s0_5 =>
    if s0_5.2.2.2.2.2.2.2.2.2.2.2.2.2.2.1 = 0 then
      if v1_5 ≤ v3_5 then
        K95 v2_5 s0_5
      else
        xcall (fX13_here N s0_5) fun q8 =>
        xcall (fX13_in N q8 48 57) fun q9 =>
        if q9 = 0 then
          K95 v2_5 s0_5
        else
          xcall (fX13_here N s0_5) fun q11 =>
          xlet (((10 * v2_5) + q11) - 48) fun x12 =>
          xlet (s0_5.2.2.2.2.2.2.2.2.2.2.2.2.2.1 + 1) fun x13 =>
          xlet (v3_5 + (1)) fun x14 =>
          fX13_digits_L40 N K95 n v1_5 x12 x14 ((Ms13 s0_5 x13))
    else
      K95 v2_5 s0_5
def fX13_digits (N : Nat) (a1 : Int32) (s0 : MS) : Option (Int32 × MS) :=
  xcall (fX13_needs N 32 s0) fun q1 =>
  xjoin (fun (t0_2 : Int32) (v1_2 : Int32) (s0_2 : MS) =>
      xnz (xbit t0_2) <|
      xjoin (fun (v2_4 : Int32) (s0_4 : MS) =>
          some (v2_4, s0_4)
        ) fun K95 =>
      fX13_digits_L40 N K95 N v1_2 0 0 ((Ms14 s0_2 t0_2))
    ) fun J33 =>
  xjoin (fun (v1_15 : Int32) (s0_15 : MS) =>
      J33 1 v1_15 s0_15
    ) fun J28 =>
  if q1.2.2.2.2.2.2.2.2.2.2.2.2.2.2.1 = 0 then
    xcall (fX13_here N q1) fun q17 =>
    xcall (fX13_in N q17 48 57) fun q18 =>
    if q18 = 0 then
      J28 a1 q1
    else
      J33 0 a1 q1
  else
    J28 a1 q1
set_option maxRecDepth 100000 in
set_option maxHeartbeats 4000000 in
theorem kX13_digits (l : Launch) (D : va_G) (cA : Nat → ClassId) (h0 : Nat → Nat) (sz N : Nat) (a1 : Int32) (s0 : MS) (q : Int32 × MS) (h : fX13_digits N a1 s0 = some q) : xM l yX13_digits cX13_digits 4 (some .int) ({ frames := 2, cells := 0, slots := 0, locals := 41 }) D cA (MW cA h0 s0) sz [.ref (h0 0), .int a1] (some (.int q.1)) (MW cA h0 q.2) := by
  generalize erm : ({ frames := 2, cells := 0, slots := 0, locals := 41 } : Room) = rm
  refine xMet (by decide) (Nat.le_of_ble_eq_true rfl) ?_
  intro p e s m below meth c hx hb hr hlocks hml hts hown hin hK hP A eA hD hS hA hsz ls hl
  have hl : lv_has ls 4 [(0, .ref (h0 0)), (1, .int a1)] := hl
  clear eA
  rw [fX13_digits] at h
  refine lv_aload_n hx hb dX13_digits_0 rfl (lv_at hl 0 rfl) ?_
  refine lv_bipush (v := 32) hx hb dX13_digits_1 (by decide) ?_
  obtain ⟨q1, c1, h⟩ := x_call h
  refine xCall (w2 := MW cA h0 q1) (xRunV (n := 1) (As := [.int 32]) (rest := []) ⟨hx, hb, hml, hown, hts⟩ (kX13_needs l D cA h0 _ N 32 s0 q1 c1) qco_X13_needs qml_X13_209 qin_X13_needs qse_X13_needs qini_X13 (by decide +kernel) (by rw [← erm]; rfl) hK hP hD [0, 1, 2, 3, 4, 5, 6, 7] rfl rfl (q0 := 0) rfl rfl rfl rfl rfl hl.1 rfl (lv_room (Nat.le_of_ble_eq_true rfl)) dX13_digits_3 ⟨Nat.zero_le _, Nat.zero_le _⟩) hP hD hS hA [0, 1, 2, 3, 4, 5, 6, 7] [] [0, 1, 2, 3, 4, 5, 6, 7] rfl (wr := []) rfl rfl rfl rfl rfl (fun H locs hP hD hS => ?_)
  refine lv_aload_n hx hb dX13_digits_6 rfl (lv_at hl 0 rfl) ?_
  refine lv_aload_n hx hb dX13_digits_7 rfl (lv_at hl 0 rfl) ?_
  refine va_get (D := D) (ci := 12) (v := .int q1.2.2.2.2.2.2.2.2.2.2.2.2.2.2.1) (C := RX13) (T := TX13) (N := 16) hx hb hts iX13 hown hK hP 0 rfl rfl 14 (by decide) (hts _ qfl_X13_202) (fun _ h9 => h9) rfl dX13_digits_8 ?_
  obtain ⟨J33, eJ33, h⟩ := x_join h
  have hJ_J33 : ∀ (t0_2 : Int32) (v1_2 : Int32) (s0_2 : MS) (H : Heap) (locs : List Loc), va_P D vwCl (MW cA h0 s0_2) H → va_D A (MW cA h0 s0_2) → va_S A s.heap H locs → ∀ ls : Array Slot, lv_has ls 4 [(0, .ref (h0 0)), (1, .int v1_2)] → J33 t0_2 v1_2 s0_2 = some q → W p l e rm s m ([.ref (h0 0), .int a1] : List Value).toArray below meth c H locs 0 0 (MQ below (xQ D cA A (MW cA h0 q.2) (some (.int q.1))) ([.ref (h0 0), .int a1] : List Value).toArray s 0 0 A) (F0 m 33 ls [.int t0_2, .ref (h0 0)]) := by
    clear h hP hD hS hl
    intro t0_2 v1_2 s0_2 H locs hP hD hS ls hl h
    rw [eJ33] at h
    obtain ⟨z3, h⟩ := x_nz h
    refine va_put (D := D) (ci := 12) (v := .int t0_2) (ty := .boolean) (C := RX13) (T := TX13) (N := 16) hx hb hts iX13 tyX13 tyX13_ok nmX13 hown hK hP hD hS 0 rfl rfl 14 (by decide) (hts _ qfl_X13_202) (fun _ h9 => h9) rfl (by decide +kernel) (xbit_n z3) (xbit_f z3) (Nat.le_of_ble_eq_true rfl) dX13_digits_33 (fun H locs hP hD hS => ?_)
    have hP : va_P D vwCl (MW cA h0 ((Ms14 s0_2 t0_2))) H := hP
    have hD : va_D A (MW cA h0 ((Ms14 s0_2 t0_2))) := hD
    refine lv_iconst (v := 0) hx hb dX13_digits_36 (by decide) ?_
    refine lv_istore_n (lv' := [(2, .int 0), (0, .ref (h0 0)), (1, .int v1_2)]) hx hb dX13_digits_37 rfl hl (by decide) rfl (fun ls hl => ?_)
    refine lv_iconst (v := 0) hx hb dX13_digits_38 (by decide) ?_
    refine lv_istore_n (lv' := [(3, .int 0), (2, .int 0), (0, .ref (h0 0)), (1, .int v1_2)]) hx hb dX13_digits_39 rfl hl (by decide) rfl (fun ls hl => ?_)
    obtain ⟨K95, eK95, h⟩ := x_join h
    have hJ_K95 : ∀ (v2_4 : Int32) (s0_4 : MS) (H : Heap) (locs : List Loc), va_P D vwCl (MW cA h0 s0_4) H → va_D A (MW cA h0 s0_4) → va_S A s.heap H locs → ∀ ls : Array Slot, lv_has ls 4 [(2, .int v2_4)] → K95 v2_4 s0_4 = some q → W p l e rm s m ([.ref (h0 0), .int a1] : List Value).toArray below meth c H locs 0 0 (MQ below (xQ D cA A (MW cA h0 q.2) (some (.int q.1))) ([.ref (h0 0), .int a1] : List Value).toArray s 0 0 A) (F0 m 95 ls []) := by
      clear h hP hD hS hl
      intro v2_4 s0_4 H locs hP hD hS ls hl h
      rw [eK95] at h
      refine lv_iload_n hx hb dX13_digits_95 rfl (lv_at hl 0 rfl) ?_
      have h := Option.some.inj h
      subst h
      exact xIret hx hb hr hlocks hP hK hD hS dX13_digits_96
    have hL40 : ∀ (n : Nat) (v1_5 : Int32) (v2_5 : Int32) (v3_5 : Int32) (s0_5 : MS) (H : Heap) (locs : List Loc), va_P D vwCl (MW cA h0 s0_5) H → va_D A (MW cA h0 s0_5) → va_S A s.heap H locs → ∀ ls : Array Slot, lv_has ls 4 [(0, .ref (h0 0)), (1, .int v1_5), (2, .int v2_5), (3, .int v3_5)] → fX13_digits_L40 N K95 n v1_5 v2_5 v3_5 s0_5 = some q → W p l e rm s m ([.ref (h0 0), .int a1] : List Value).toArray below meth c H locs 0 0 (MQ below (xQ D cA A (MW cA h0 q.2) (some (.int q.1))) ([.ref (h0 0), .int a1] : List Value).toArray s 0 0 A) (F0 m 40 ls []) := by
      clear h hP hD hS hl
      intro n
      induction n with
      | zero => intro v1_5 v2_5 v3_5 s0_5 H locs hP hD hS ls hl h; rw [fX13_digits_L40] at h; cases h
      | succ n ih =>
        intro v1_5 v2_5 v3_5 s0_5 H locs hP hD hS ls hl h
        rw [fX13_digits_L40] at h
        refine lv_aload_n hx hb dX13_digits_40 rfl (lv_at hl 0 rfl) ?_
        refine va_get (D := D) (ci := 12) (v := .int s0_5.2.2.2.2.2.2.2.2.2.2.2.2.2.2.1) (C := RX13) (T := TX13) (N := 16) hx hb hts iX13 hown hK hP 0 rfl rfl 14 (by decide) (hts _ qfl_X13_202) (fun _ h9 => h9) rfl dX13_digits_41 ?_
        refine lv_if_ne (tgt := 95) hx hb dX13_digits_44 (by decide) (fun c6 => ?_) (fun c6 => ?_)
        · have h := x_f h c6
          exact hJ_K95 v2_5 s0_5 _ _ hP hD hS _ (lv_sub hl [2] rfl) h
        · have h := x_t h c6
          refine lv_iload_n hx hb dX13_digits_47 rfl (lv_at hl 3 rfl) ?_
          refine lv_iload_n hx hb dX13_digits_48 rfl (lv_at hl 1 rfl) ?_
          refine lv_icmp_ge (tgt := 95) hx hb dX13_digits_49 (by decide) (fun c7 => ?_) (fun c7 => ?_)
          · have h := x_t h c7
            exact hJ_K95 v2_5 s0_5 _ _ hP hD hS _ (lv_sub hl [2] rfl) h
          · have h := x_f h c7
            refine lv_aload_n hx hb dX13_digits_52 rfl (lv_at hl 0 rfl) ?_
            obtain ⟨q8, c8, h⟩ := x_call h
            refine xCall (w2 := MW cA h0 s0_5) (xRunV (n := 0) (As := []) (rest := []) ⟨hx, hb, hml, hown, hts⟩ (kX13_here l D cA h0 _ N s0_5 q8 c8) qco_X13_here qml_X13_206 qin_X13_here qse_X13_here qini_X13 (by decide +kernel) (by rw [← erm]; rfl) hK hP hD [0, 1, 2, 3, 4, 5, 6, 7] rfl rfl (q0 := 0) rfl rfl rfl rfl rfl hl.1 rfl (lv_room (Nat.le_of_ble_eq_true rfl)) dX13_digits_53 ⟨Nat.zero_le _, Nat.zero_le _⟩) hP hD hS hA [0, 1, 2, 3, 4, 5, 6, 7] [] [0, 1, 2, 3, 4, 5, 6, 7] rfl (wr := []) rfl rfl rfl rfl rfl (fun H locs hP hD hS => ?_)
            refine lv_bipush (v := 48) hx hb dX13_digits_56 (by decide) ?_
            refine lv_bipush (v := 57) hx hb dX13_digits_58 (by decide) ?_
            obtain ⟨q9, c9, h⟩ := x_call h
            refine xCall (w2 := MW cA h0 s0_5) (xRunS (n := 3) (As := [.int q8, .int 48, .int 57]) (rest := []) ⟨hx, hb, hml, hown, hts⟩ (kX13_in l D cA  _ N q8 48 57 q9 c9) qco_X13_in qml_X13_49 qst_X13_in qini_X13 (by decide +kernel) (by rw [← erm]; rfl) hK hP hD [] rfl rfl rfl rfl hl.1 rfl (lv_room (Nat.le_of_ble_eq_true rfl)) dX13_digits_60 ⟨Nat.zero_le _, Nat.zero_le _⟩) hP hD hS hA [] [0, 1, 2, 3, 4, 5, 6, 7] [0, 1, 2, 3, 4, 5, 6, 7] rfl (wr := [(h0 0, .inr (12, [.ref (h0 1), .ref (h0 2), .ref (h0 3), .int (s0_5.2.2.2.1), .ref (h0 4), .int (s0_5.2.2.2.2.2.1), .ref (h0 5), .int (s0_5.2.2.2.2.2.2.2.1), .int (s0_5.2.2.2.2.2.2.2.2.1), .int (s0_5.2.2.2.2.2.2.2.2.2.1), .ref (h0 6), .int (s0_5.2.2.2.2.2.2.2.2.2.2.2.1), .int (s0_5.2.2.2.2.2.2.2.2.2.2.2.2.1), .int (s0_5.2.2.2.2.2.2.2.2.2.2.2.2.2.1), .int (s0_5.2.2.2.2.2.2.2.2.2.2.2.2.2.2.1), .ref (h0 7)])), (h0 1, .inl (cA 0, 229, .inl (s0_5.1))), (h0 2, .inl (cA 0, 229, .inl (s0_5.2.1))), (h0 3, .inl (cA 0, 1832, .inl (s0_5.2.2.1))), (h0 4, .inl (cA 0, 229, .inl (s0_5.2.2.2.2.1))), (h0 5, .inl (cA 1, 60, .inl (s0_5.2.2.2.2.2.2.1))), (h0 6, .inl (cA 1, 60, .inl (s0_5.2.2.2.2.2.2.2.2.2.2.1))), (h0 7, .inl (cA 0, 240, .inl (s0_5.2.2.2.2.2.2.2.2.2.2.2.2.2.2.2)))]) rfl rfl rfl rfl rfl (fun H locs hP hD hS => ?_)
            refine lv_if_eq (tgt := 95) hx hb dX13_digits_63 (by decide) (fun c10 => ?_) (fun c10 => ?_)
            · have h := x_t h c10
              exact hJ_K95 v2_5 s0_5 _ _ hP hD hS _ (lv_sub hl [2] rfl) h
            · have h := x_f h c10
              refine lv_bipush (v := 10) hx hb dX13_digits_66 (by decide) ?_
              refine lv_iload_n hx hb dX13_digits_68 rfl (lv_at hl 2 rfl) ?_
              refine lv_imul hx hb dX13_digits_69 ?_
              refine lv_aload_n hx hb dX13_digits_70 rfl (lv_at hl 0 rfl) ?_
              obtain ⟨q11, c11, h⟩ := x_call h
              refine xCall (w2 := MW cA h0 s0_5) (xRunV (n := 0) (As := []) (rest := [.int (10 * v2_5)]) ⟨hx, hb, hml, hown, hts⟩ (kX13_here l D cA h0 _ N s0_5 q11 c11) qco_X13_here qml_X13_206 qin_X13_here qse_X13_here qini_X13 (by decide +kernel) (by rw [← erm]; rfl) hK hP hD [0, 1, 2, 3, 4, 5, 6, 7] rfl rfl (q0 := 0) rfl rfl rfl rfl rfl hl.1 rfl (lv_room (Nat.le_of_ble_eq_true rfl)) dX13_digits_71 ⟨Nat.zero_le _, Nat.zero_le _⟩) hP hD hS hA [0, 1, 2, 3, 4, 5, 6, 7] [] [0, 1, 2, 3, 4, 5, 6, 7] rfl (wr := []) rfl rfl rfl rfl rfl (fun H locs hP hD hS => ?_)
              refine lv_iadd hx hb dX13_digits_74 ?_
              refine lv_bipush (v := 48) hx hb dX13_digits_75 (by decide) ?_
              refine lv_isub hx hb dX13_digits_77 ?_
              refine lv_topi (fun x12 ex12 => ?_)
              have h := x_let h ex12
              refine lv_istore_n (lv' := [(2, .int x12), (0, .ref (h0 0)), (1, .int v1_5), (3, .int v3_5)]) hx hb dX13_digits_78 rfl hl (by decide) rfl (fun ls hl => ?_)
              refine lv_aload_n hx hb dX13_digits_79 rfl (lv_at hl 1 rfl) ?_
              refine lv_dup hx hb dX13_digits_80 rfl ?_
              refine va_get (D := D) (ci := 12) (v := .int s0_5.2.2.2.2.2.2.2.2.2.2.2.2.2.1) (C := RX13) (T := TX13) (N := 16) hx hb hts iX13 hown hK hP 0 rfl rfl 13 (by decide) (hts _ qfl_X13_199) (fun _ h9 => h9) rfl dX13_digits_81 ?_
              refine lv_iconst (v := 1) hx hb dX13_digits_84 (by decide) ?_
              refine lv_iadd hx hb dX13_digits_85 ?_
              refine lv_topi (fun x13 ex13 => ?_)
              have h := x_let h ex13
              refine va_put (D := D) (ci := 12) (v := .int x13) (ty := .int) (C := RX13) (T := TX13) (N := 16) hx hb hts iX13 tyX13 tyX13_ok nmX13 hown hK hP hD hS 0 rfl rfl 13 (by decide) (hts _ qfl_X13_199) (fun _ h9 => h9) rfl (by decide +kernel) rfl rfl (Nat.le_of_ble_eq_true rfl) dX13_digits_86 (fun H locs hP hD hS => ?_)
              have hP : va_P D vwCl (MW cA h0 ((Ms13 s0_5 x13))) H := hP
              have hD : va_D A (MW cA h0 ((Ms13 s0_5 x13))) := hD
              obtain ⟨x14, ex14⟩ : ∃ y : Int32, y = v3_5 + (1) := ⟨_, rfl⟩
              have h := x_let h ex14
              refine lv_iinc (v := x14) (lv' := [(3, .int x14), (2, .int x12), (0, .ref (h0 0)), (1, .int v1_5)]) hx hb dX13_digits_89 hl (k := 3) rfl (by rw [ex14]; rfl) (by decide) rfl (fun ls hl => ?_)
              refine lv_goto (tgt := 40) hx hb dX13_digits_92 (by decide) ?_
              exact ih v1_5 x12 x14 ((Ms13 s0_5 x13)) _ _ hP hD hS _ (lv_sub hl [2, 3, 1, 0] rfl) h
    exact hL40 N v1_2 0 0 ((Ms14 s0_2 t0_2)) _ _ hP hD hS _ (lv_sub hl [2, 3, 1, 0] rfl) h
  obtain ⟨J28, eJ28, h⟩ := x_join h
  have hJ_J28 : ∀ (v1_15 : Int32) (s0_15 : MS) (H : Heap) (locs : List Loc), va_P D vwCl (MW cA h0 s0_15) H → va_D A (MW cA h0 s0_15) → va_S A s.heap H locs → ∀ ls : Array Slot, lv_has ls 4 [(0, .ref (h0 0)), (1, .int v1_15)] → J28 v1_15 s0_15 = some q → W p l e rm s m ([.ref (h0 0), .int a1] : List Value).toArray below meth c H locs 0 0 (MQ below (xQ D cA A (MW cA h0 q.2) (some (.int q.1))) ([.ref (h0 0), .int a1] : List Value).toArray s 0 0 A) (F0 m 28 ls [.ref (h0 0)]) := by
    clear h hP hD hS hl
    intro v1_15 s0_15 H locs hP hD hS ls hl h
    rw [eJ28] at h
    refine lv_iconst (v := 1) hx hb dX13_digits_28 (by decide) ?_
    refine lv_goto (tgt := 33) hx hb dX13_digits_29 (by decide) ?_
    exact hJ_J33 1 v1_15 s0_15 _ _ hP hD hS _ (lv_sub hl [0, 1] rfl) h
  refine lv_if_ne (tgt := 28) hx hb dX13_digits_11 (by decide) (fun c16 => ?_) (fun c16 => ?_)
  · have h := x_f h c16
    exact hJ_J28 a1 q1 _ _ hP hD hS _ (lv_sub hl [0, 1] rfl) h
  · have h := x_t h c16
    refine lv_aload_n hx hb dX13_digits_14 rfl (lv_at hl 0 rfl) ?_
    obtain ⟨q17, c17, h⟩ := x_call h
    refine xCall (w2 := MW cA h0 q1) (xRunV (n := 0) (As := []) (rest := [.ref (h0 0)]) ⟨hx, hb, hml, hown, hts⟩ (kX13_here l D cA h0 _ N q1 q17 c17) qco_X13_here qml_X13_206 qin_X13_here qse_X13_here qini_X13 (by decide +kernel) (by rw [← erm]; rfl) hK hP hD [0, 1, 2, 3, 4, 5, 6, 7] rfl rfl (q0 := 0) rfl rfl rfl rfl rfl hl.1 rfl (lv_room (Nat.le_of_ble_eq_true rfl)) dX13_digits_15 ⟨Nat.zero_le _, Nat.zero_le _⟩) hP hD hS hA [0, 1, 2, 3, 4, 5, 6, 7] [] [0, 1, 2, 3, 4, 5, 6, 7] rfl (wr := []) rfl rfl rfl rfl rfl (fun H locs hP hD hS => ?_)
    refine lv_bipush (v := 48) hx hb dX13_digits_18 (by decide) ?_
    refine lv_bipush (v := 57) hx hb dX13_digits_20 (by decide) ?_
    obtain ⟨q18, c18, h⟩ := x_call h
    refine xCall (w2 := MW cA h0 q1) (xRunS (n := 3) (As := [.int q17, .int 48, .int 57]) (rest := [.ref (h0 0)]) ⟨hx, hb, hml, hown, hts⟩ (kX13_in l D cA  _ N q17 48 57 q18 c18) qco_X13_in qml_X13_49 qst_X13_in qini_X13 (by decide +kernel) (by rw [← erm]; rfl) hK hP hD [] rfl rfl rfl rfl hl.1 rfl (lv_room (Nat.le_of_ble_eq_true rfl)) dX13_digits_22 ⟨Nat.zero_le _, Nat.zero_le _⟩) hP hD hS hA [] [0, 1, 2, 3, 4, 5, 6, 7] [0, 1, 2, 3, 4, 5, 6, 7] rfl (wr := [(h0 0, .inr (12, [.ref (h0 1), .ref (h0 2), .ref (h0 3), .int (q1.2.2.2.1), .ref (h0 4), .int (q1.2.2.2.2.2.1), .ref (h0 5), .int (q1.2.2.2.2.2.2.2.1), .int (q1.2.2.2.2.2.2.2.2.1), .int (q1.2.2.2.2.2.2.2.2.2.1), .ref (h0 6), .int (q1.2.2.2.2.2.2.2.2.2.2.2.1), .int (q1.2.2.2.2.2.2.2.2.2.2.2.2.1), .int (q1.2.2.2.2.2.2.2.2.2.2.2.2.2.1), .int (q1.2.2.2.2.2.2.2.2.2.2.2.2.2.2.1), .ref (h0 7)])), (h0 1, .inl (cA 0, 229, .inl (q1.1))), (h0 2, .inl (cA 0, 229, .inl (q1.2.1))), (h0 3, .inl (cA 0, 1832, .inl (q1.2.2.1))), (h0 4, .inl (cA 0, 229, .inl (q1.2.2.2.2.1))), (h0 5, .inl (cA 1, 60, .inl (q1.2.2.2.2.2.2.1))), (h0 6, .inl (cA 1, 60, .inl (q1.2.2.2.2.2.2.2.2.2.2.1))), (h0 7, .inl (cA 0, 240, .inl (q1.2.2.2.2.2.2.2.2.2.2.2.2.2.2.2)))]) rfl rfl rfl rfl rfl (fun H locs hP hD hS => ?_)
    refine lv_if_ne (tgt := 32) hx hb dX13_digits_25 (by decide) (fun c19 => ?_) (fun c19 => ?_)
    · have h := x_f h c19
      refine lv_iconst (v := 0) hx hb dX13_digits_32 (by decide) ?_
      exact hJ_J33 0 a1 q1 _ _ hP hD hS _ (lv_sub hl [0, 1] rfl) h
    · have h := x_t h c19
      exact hJ_J28 a1 q1 _ _ hP hD hS _ (lv_sub hl [0, 1] rfl) h
def fX13_parsesP (N : Nat) (a1 : Int32) (s0 : MS) : Option (MS) :=
  xcall (fX13_here N s0) fun q1 =>
  xjoin (fun (s0_2 : MS) =>
      some s0_2
    ) fun J94 =>
  if q1 = 97 then
    xrd 240 a1 fun k14 =>
    xlet (upd s0.2.2.2.2.2.2.2.2.2.2.2.2.2.2.2 k14 121) fun g15 =>
    xcall (fX13_needs N 97 ((Ms15 s0 g15))) fun q16 =>
    xcall (fX13_needs N 121 q16) fun q17 =>
    xcall (fX13_digits N 3 q17) fun q18 =>
    xrd 240 (a1 + 1) fun k19 =>
    xlet (upd q18.2.2.2.2.2.2.2.2.2.2.2.2.2.2.2.2 k19 q18.1) fun g20 =>
    J94 ((Ms15 q18.2 g20))
  else
    xcall (fX13_needsThree N 111 115 116 s0) fun q4 =>
    xcall (fX13_digits N 2 q4) fun q5 =>
    xrd 240 (a1 + 1) fun k6 =>
    xlet (upd q5.2.2.2.2.2.2.2.2.2.2.2.2.2.2.2.2 k6 q5.1) fun g7 =>
    xcall (fX13_digits N 2 ((Ms15 q5.2 g7))) fun q8 =>
    xrd 240 (a1 + 2) fun k9 =>
    xlet (upd q8.2.2.2.2.2.2.2.2.2.2.2.2.2.2.2.2 k9 q8.1) fun g10 =>
    xcall (fX13_digits N 3 ((Ms15 q8.2 g10))) fun q11 =>
    xrd 240 (a1 + 3) fun k12 =>
    xlet (upd q11.2.2.2.2.2.2.2.2.2.2.2.2.2.2.2.2 k12 q11.1) fun g13 =>
    J94 ((Ms15 q11.2 g13))
set_option maxRecDepth 100000 in
set_option maxHeartbeats 4000000 in
theorem kX13_parsesP (l : Launch) (D : va_G) (cA : Nat → ClassId) (h0 : Nat → Nat) (sz N : Nat) (a1 : Int32) (s0 : MS) (q : MS) (h : fX13_parsesP N a1 s0 = some q) : xM l yX13_parsesP cX13_parsesP 2 none ({ frames := 3, cells := 0, slots := 0, locals := 64 }) D cA (MW cA h0 s0) sz [.ref (h0 0), .int a1] (none) (MW cA h0 q) := by
  generalize erm : ({ frames := 3, cells := 0, slots := 0, locals := 64 } : Room) = rm
  refine xMet (by decide) (Nat.le_of_ble_eq_true rfl) ?_
  intro p e s m below meth c hx hb hr hlocks hml hts hown hin hK hP A eA hD hS hA hsz ls hl
  have hl : lv_has ls 2 [(0, .ref (h0 0)), (1, .int a1)] := hl
  clear eA
  rw [fX13_parsesP] at h
  refine lv_aload_n hx hb dX13_parsesP_0 rfl (lv_at hl 0 rfl) ?_
  obtain ⟨q1, c1, h⟩ := x_call h
  refine xCall (w2 := MW cA h0 s0) (xRunV (n := 0) (As := []) (rest := []) ⟨hx, hb, hml, hown, hts⟩ (kX13_here l D cA h0 _ N s0 q1 c1) qco_X13_here qml_X13_206 qin_X13_here qse_X13_here qini_X13 (by decide +kernel) (by rw [← erm]; rfl) hK hP hD [0, 1, 2, 3, 4, 5, 6, 7] rfl rfl (q0 := 0) rfl rfl rfl rfl rfl hl.1 rfl (lv_room (Nat.le_of_ble_eq_true rfl)) dX13_parsesP_1 ⟨Nat.zero_le _, Nat.zero_le _⟩) hP hD hS hA [0, 1, 2, 3, 4, 5, 6, 7] [] [0, 1, 2, 3, 4, 5, 6, 7] rfl (wr := []) rfl rfl rfl rfl rfl (fun H locs hP hD hS => ?_)
  refine lv_bipush (v := 97) hx hb dX13_parsesP_4 (by decide) ?_
  obtain ⟨J94, eJ94, h⟩ := x_join h
  have hJ_J94 : ∀ (s0_2 : MS) (H : Heap) (locs : List Loc), va_P D vwCl (MW cA h0 s0_2) H → va_D A (MW cA h0 s0_2) → va_S A s.heap H locs → ∀ ls : Array Slot, lv_has ls 2 [] → J94 s0_2 = some q → W p l e rm s m ([.ref (h0 0), .int a1] : List Value).toArray below meth c H locs 0 0 (MQ below (xQ D cA A (MW cA h0 q) (none)) ([.ref (h0 0), .int a1] : List Value).toArray s 0 0 A) (F0 m 94 ls []) := by
    clear h hP hD hS hl
    intro s0_2 H locs hP hD hS ls hl h
    rw [eJ94] at h
    have h := Option.some.inj h
    subst h
    exact xVret hx hb hr hlocks hP hK hD hS dX13_parsesP_94
  refine lv_icmp_ne (tgt := 45) hx hb dX13_parsesP_6 (by decide) (fun c3 => ?_) (fun c3 => ?_)
  · have h := x_f h c3
    refine lv_aload_n hx hb dX13_parsesP_45 rfl (lv_at hl 0 rfl) ?_
    refine lv_bipush (v := 111) hx hb dX13_parsesP_46 (by decide) ?_
    refine lv_bipush (v := 115) hx hb dX13_parsesP_48 (by decide) ?_
    refine lv_bipush (v := 116) hx hb dX13_parsesP_50 (by decide) ?_
    obtain ⟨q4, c4, h⟩ := x_call h
    refine xCall (w2 := MW cA h0 q4) (xRunV (n := 3) (As := [.int 111, .int 115, .int 116]) (rest := []) ⟨hx, hb, hml, hown, hts⟩ (kX13_needsThree l D cA h0 _ N 111 115 116 s0 q4 c4) qco_X13_needsThree qml_X13_215 qin_X13_needsThree qse_X13_needsThree qini_X13 (by decide +kernel) (by rw [← erm]; rfl) hK hP hD [0, 1, 2, 3, 4, 5, 6, 7] rfl rfl (q0 := 0) rfl rfl rfl rfl rfl hl.1 rfl (lv_room (Nat.le_of_ble_eq_true rfl)) dX13_parsesP_52 ⟨Nat.zero_le _, Nat.zero_le _⟩) hP hD hS hA [0, 1, 2, 3, 4, 5, 6, 7] [] [0, 1, 2, 3, 4, 5, 6, 7] rfl (wr := []) rfl rfl rfl rfl rfl (fun H locs hP hD hS => ?_)
    refine lv_aload_n hx hb dX13_parsesP_55 rfl (lv_at hl 0 rfl) ?_
    refine va_get (D := D) (ci := 12) (v := .ref (h0 7)) (C := RX13) (T := TX13) (N := 16) hx hb hts iX13 hown hK hP 0 rfl rfl 15 (by decide) (hts _ qfl_X13_36) (fun _ h9 => h9) rfl dX13_parsesP_56 ?_
    refine lv_iload_n hx hb dX13_parsesP_59 rfl (lv_at hl 1 rfl) ?_
    refine lv_iconst (v := 1) hx hb dX13_parsesP_60 (by decide) ?_
    refine lv_iadd hx hb dX13_parsesP_61 ?_
    refine lv_aload_n hx hb dX13_parsesP_62 rfl (lv_at hl 0 rfl) ?_
    refine lv_iconst (v := 2) hx hb dX13_parsesP_63 (by decide) ?_
    obtain ⟨q5, c5, h⟩ := x_call h
    refine xCall (w2 := MW cA h0 q5.2) (xRunV (n := 1) (As := [.int 2]) (rest := [.int (a1 + 1), .ref (h0 7)]) ⟨hx, hb, hml, hown, hts⟩ (kX13_digits l D cA h0 _ N 2 q4 q5 c5) qco_X13_digits qml_X13_212 qin_X13_digits qse_X13_digits qini_X13 (by decide +kernel) (by rw [← erm]; rfl) hK hP hD [0, 1, 2, 3, 4, 5, 6, 7] rfl rfl (q0 := 0) rfl rfl rfl rfl rfl hl.1 rfl (lv_room (Nat.le_of_ble_eq_true rfl)) dX13_parsesP_64 ⟨Nat.zero_le _, Nat.zero_le _⟩) hP hD hS hA [0, 1, 2, 3, 4, 5, 6, 7] [] [0, 1, 2, 3, 4, 5, 6, 7] rfl (wr := []) rfl rfl rfl rfl rfl (fun H locs hP hD hS => ?_)
    obtain ⟨k6, hk6, h⟩ := x_rd h
    refine xIast (w2 := fun zz => MW cA h0 ((Ms15 q5.2 zz))) hx hb hK hP hD hS 7 0 rfl rfl hk6 (fun _ => rfl) dX13_parsesP_67 (fun g7 eg7 H locs hP hD hS => ?_)
    have h := x_let h eg7
    have hP : va_P D vwCl (MW cA h0 ((Ms15 q5.2 g7))) H := hP
    have hD : va_D A (MW cA h0 ((Ms15 q5.2 g7))) := hD
    refine lv_aload_n hx hb dX13_parsesP_68 rfl (lv_at hl 0 rfl) ?_
    refine va_get (D := D) (ci := 12) (v := .ref (h0 7)) (C := RX13) (T := TX13) (N := 16) hx hb hts iX13 hown hK hP 0 rfl rfl 15 (by decide) (hts _ qfl_X13_36) (fun _ h9 => h9) rfl dX13_parsesP_69 ?_
    refine lv_iload_n hx hb dX13_parsesP_72 rfl (lv_at hl 1 rfl) ?_
    refine lv_iconst (v := 2) hx hb dX13_parsesP_73 (by decide) ?_
    refine lv_iadd hx hb dX13_parsesP_74 ?_
    refine lv_aload_n hx hb dX13_parsesP_75 rfl (lv_at hl 0 rfl) ?_
    refine lv_iconst (v := 2) hx hb dX13_parsesP_76 (by decide) ?_
    obtain ⟨q8, c8, h⟩ := x_call h
    refine xCall (w2 := MW cA h0 q8.2) (xRunV (n := 1) (As := [.int 2]) (rest := [.int (a1 + 2), .ref (h0 7)]) ⟨hx, hb, hml, hown, hts⟩ (kX13_digits l D cA h0 _ N 2 ((Ms15 q5.2 g7)) q8 c8) qco_X13_digits qml_X13_212 qin_X13_digits qse_X13_digits qini_X13 (by decide +kernel) (by rw [← erm]; rfl) hK hP hD [0, 1, 2, 3, 4, 5, 6, 7] rfl rfl (q0 := 0) rfl rfl rfl rfl rfl hl.1 rfl (lv_room (Nat.le_of_ble_eq_true rfl)) dX13_parsesP_77 ⟨Nat.zero_le _, Nat.zero_le _⟩) hP hD hS hA [0, 1, 2, 3, 4, 5, 6, 7] [] [0, 1, 2, 3, 4, 5, 6, 7] rfl (wr := []) rfl rfl rfl rfl rfl (fun H locs hP hD hS => ?_)
    obtain ⟨k9, hk9, h⟩ := x_rd h
    refine xIast (w2 := fun zz => MW cA h0 ((Ms15 q8.2 zz))) hx hb hK hP hD hS 7 0 rfl rfl hk9 (fun _ => rfl) dX13_parsesP_80 (fun g10 eg10 H locs hP hD hS => ?_)
    have h := x_let h eg10
    have hP : va_P D vwCl (MW cA h0 ((Ms15 q8.2 g10))) H := hP
    have hD : va_D A (MW cA h0 ((Ms15 q8.2 g10))) := hD
    refine lv_aload_n hx hb dX13_parsesP_81 rfl (lv_at hl 0 rfl) ?_
    refine va_get (D := D) (ci := 12) (v := .ref (h0 7)) (C := RX13) (T := TX13) (N := 16) hx hb hts iX13 hown hK hP 0 rfl rfl 15 (by decide) (hts _ qfl_X13_36) (fun _ h9 => h9) rfl dX13_parsesP_82 ?_
    refine lv_iload_n hx hb dX13_parsesP_85 rfl (lv_at hl 1 rfl) ?_
    refine lv_iconst (v := 3) hx hb dX13_parsesP_86 (by decide) ?_
    refine lv_iadd hx hb dX13_parsesP_87 ?_
    refine lv_aload_n hx hb dX13_parsesP_88 rfl (lv_at hl 0 rfl) ?_
    refine lv_iconst (v := 3) hx hb dX13_parsesP_89 (by decide) ?_
    obtain ⟨q11, c11, h⟩ := x_call h
    refine xCall (w2 := MW cA h0 q11.2) (xRunV (n := 1) (As := [.int 3]) (rest := [.int (a1 + 3), .ref (h0 7)]) ⟨hx, hb, hml, hown, hts⟩ (kX13_digits l D cA h0 _ N 3 ((Ms15 q8.2 g10)) q11 c11) qco_X13_digits qml_X13_212 qin_X13_digits qse_X13_digits qini_X13 (by decide +kernel) (by rw [← erm]; rfl) hK hP hD [0, 1, 2, 3, 4, 5, 6, 7] rfl rfl (q0 := 0) rfl rfl rfl rfl rfl hl.1 rfl (lv_room (Nat.le_of_ble_eq_true rfl)) dX13_parsesP_90 ⟨Nat.zero_le _, Nat.zero_le _⟩) hP hD hS hA [0, 1, 2, 3, 4, 5, 6, 7] [] [0, 1, 2, 3, 4, 5, 6, 7] rfl (wr := []) rfl rfl rfl rfl rfl (fun H locs hP hD hS => ?_)
    obtain ⟨k12, hk12, h⟩ := x_rd h
    refine xIast (w2 := fun zz => MW cA h0 ((Ms15 q11.2 zz))) hx hb hK hP hD hS 7 0 rfl rfl hk12 (fun _ => rfl) dX13_parsesP_93 (fun g13 eg13 H locs hP hD hS => ?_)
    have h := x_let h eg13
    have hP : va_P D vwCl (MW cA h0 ((Ms15 q11.2 g13))) H := hP
    have hD : va_D A (MW cA h0 ((Ms15 q11.2 g13))) := hD
    exact hJ_J94 ((Ms15 q11.2 g13)) _ _ hP hD hS _ (lv_sub hl [] rfl) h
  · have h := x_t h c3
    refine lv_aload_n hx hb dX13_parsesP_9 rfl (lv_at hl 0 rfl) ?_
    refine va_get (D := D) (ci := 12) (v := .ref (h0 7)) (C := RX13) (T := TX13) (N := 16) hx hb hts iX13 hown hK hP 0 rfl rfl 15 (by decide) (hts _ qfl_X13_36) (fun _ h9 => h9) rfl dX13_parsesP_10 ?_
    refine lv_iload_n hx hb dX13_parsesP_13 rfl (lv_at hl 1 rfl) ?_
    refine lv_bipush (v := 121) hx hb dX13_parsesP_14 (by decide) ?_
    obtain ⟨k14, hk14, h⟩ := x_rd h
    refine xIast (w2 := fun zz => MW cA h0 ((Ms15 s0 zz))) hx hb hK hP hD hS 7 0 rfl rfl hk14 (fun _ => rfl) dX13_parsesP_16 (fun g15 eg15 H locs hP hD hS => ?_)
    have h := x_let h eg15
    have hP : va_P D vwCl (MW cA h0 ((Ms15 s0 g15))) H := hP
    have hD : va_D A (MW cA h0 ((Ms15 s0 g15))) := hD
    refine lv_aload_n hx hb dX13_parsesP_17 rfl (lv_at hl 0 rfl) ?_
    refine lv_bipush (v := 97) hx hb dX13_parsesP_18 (by decide) ?_
    obtain ⟨q16, c16, h⟩ := x_call h
    refine xCall (w2 := MW cA h0 q16) (xRunV (n := 1) (As := [.int 97]) (rest := []) ⟨hx, hb, hml, hown, hts⟩ (kX13_needs l D cA h0 _ N 97 ((Ms15 s0 g15)) q16 c16) qco_X13_needs qml_X13_209 qin_X13_needs qse_X13_needs qini_X13 (by decide +kernel) (by rw [← erm]; rfl) hK hP hD [0, 1, 2, 3, 4, 5, 6, 7] rfl rfl (q0 := 0) rfl rfl rfl rfl rfl hl.1 rfl (lv_room (Nat.le_of_ble_eq_true rfl)) dX13_parsesP_20 ⟨Nat.zero_le _, Nat.zero_le _⟩) hP hD hS hA [0, 1, 2, 3, 4, 5, 6, 7] [] [0, 1, 2, 3, 4, 5, 6, 7] rfl (wr := []) rfl rfl rfl rfl rfl (fun H locs hP hD hS => ?_)
    refine lv_aload_n hx hb dX13_parsesP_23 rfl (lv_at hl 0 rfl) ?_
    refine lv_bipush (v := 121) hx hb dX13_parsesP_24 (by decide) ?_
    obtain ⟨q17, c17, h⟩ := x_call h
    refine xCall (w2 := MW cA h0 q17) (xRunV (n := 1) (As := [.int 121]) (rest := []) ⟨hx, hb, hml, hown, hts⟩ (kX13_needs l D cA h0 _ N 121 q16 q17 c17) qco_X13_needs qml_X13_209 qin_X13_needs qse_X13_needs qini_X13 (by decide +kernel) (by rw [← erm]; rfl) hK hP hD [0, 1, 2, 3, 4, 5, 6, 7] rfl rfl (q0 := 0) rfl rfl rfl rfl rfl hl.1 rfl (lv_room (Nat.le_of_ble_eq_true rfl)) dX13_parsesP_26 ⟨Nat.zero_le _, Nat.zero_le _⟩) hP hD hS hA [0, 1, 2, 3, 4, 5, 6, 7] [] [0, 1, 2, 3, 4, 5, 6, 7] rfl (wr := []) rfl rfl rfl rfl rfl (fun H locs hP hD hS => ?_)
    refine lv_aload_n hx hb dX13_parsesP_29 rfl (lv_at hl 0 rfl) ?_
    refine va_get (D := D) (ci := 12) (v := .ref (h0 7)) (C := RX13) (T := TX13) (N := 16) hx hb hts iX13 hown hK hP 0 rfl rfl 15 (by decide) (hts _ qfl_X13_36) (fun _ h9 => h9) rfl dX13_parsesP_30 ?_
    refine lv_iload_n hx hb dX13_parsesP_33 rfl (lv_at hl 1 rfl) ?_
    refine lv_iconst (v := 1) hx hb dX13_parsesP_34 (by decide) ?_
    refine lv_iadd hx hb dX13_parsesP_35 ?_
    refine lv_aload_n hx hb dX13_parsesP_36 rfl (lv_at hl 0 rfl) ?_
    refine lv_iconst (v := 3) hx hb dX13_parsesP_37 (by decide) ?_
    obtain ⟨q18, c18, h⟩ := x_call h
    refine xCall (w2 := MW cA h0 q18.2) (xRunV (n := 1) (As := [.int 3]) (rest := [.int (a1 + 1), .ref (h0 7)]) ⟨hx, hb, hml, hown, hts⟩ (kX13_digits l D cA h0 _ N 3 q17 q18 c18) qco_X13_digits qml_X13_212 qin_X13_digits qse_X13_digits qini_X13 (by decide +kernel) (by rw [← erm]; rfl) hK hP hD [0, 1, 2, 3, 4, 5, 6, 7] rfl rfl (q0 := 0) rfl rfl rfl rfl rfl hl.1 rfl (lv_room (Nat.le_of_ble_eq_true rfl)) dX13_parsesP_38 ⟨Nat.zero_le _, Nat.zero_le _⟩) hP hD hS hA [0, 1, 2, 3, 4, 5, 6, 7] [] [0, 1, 2, 3, 4, 5, 6, 7] rfl (wr := []) rfl rfl rfl rfl rfl (fun H locs hP hD hS => ?_)
    obtain ⟨k19, hk19, h⟩ := x_rd h
    refine xIast (w2 := fun zz => MW cA h0 ((Ms15 q18.2 zz))) hx hb hK hP hD hS 7 0 rfl rfl hk19 (fun _ => rfl) dX13_parsesP_41 (fun g20 eg20 H locs hP hD hS => ?_)
    have h := x_let h eg20
    have hP : va_P D vwCl (MW cA h0 ((Ms15 q18.2 g20))) H := hP
    have hD : va_D A (MW cA h0 ((Ms15 q18.2 g20))) := hD
    refine lv_goto (tgt := 94) hx hb dX13_parsesP_42 (by decide) ?_
    exact hJ_J94 ((Ms15 q18.2 g20)) _ _ hP hD hS _ (lv_sub hl [] rfl) h
def fX13_parsesTrade (N : Nat) (a1 : Int32) (s0 : MS) : Option (MS) :=
  xcall (fX13_digits N 2 s0) fun q1 =>
  xrd 240 (a1 + 1) fun k2 =>
  xlet (upd q1.2.2.2.2.2.2.2.2.2.2.2.2.2.2.2.2 k2 q1.1) fun g3 =>
  xcall (fX13_digits N 3 ((Ms15 q1.2 g3))) fun q4 =>
  xrd 240 (a1 + 2) fun k5 =>
  xlet (upd q4.2.2.2.2.2.2.2.2.2.2.2.2.2.2.2.2 k5 q4.1) fun g6 =>
  some ((Ms15 q4.2 g6))
set_option maxRecDepth 100000 in
set_option maxHeartbeats 4000000 in
theorem kX13_parsesTrade (l : Launch) (D : va_G) (cA : Nat → ClassId) (h0 : Nat → Nat) (sz N : Nat) (a1 : Int32) (s0 : MS) (q : MS) (h : fX13_parsesTrade N a1 s0 = some q) : xM l yX13_parsesTrade cX13_parsesTrade 2 none ({ frames := 3, cells := 0, slots := 0, locals := 64 }) D cA (MW cA h0 s0) sz [.ref (h0 0), .int a1] (none) (MW cA h0 q) := by
  generalize erm : ({ frames := 3, cells := 0, slots := 0, locals := 64 } : Room) = rm
  refine xMet (by decide) (Nat.le_of_ble_eq_true rfl) ?_
  intro p e s m below meth c hx hb hr hlocks hml hts hown hin hK hP A eA hD hS hA hsz ls hl
  have hl : lv_has ls 2 [(0, .ref (h0 0)), (1, .int a1)] := hl
  clear eA
  rw [fX13_parsesTrade] at h
  refine lv_aload_n hx hb dX13_parsesTrade_0 rfl (lv_at hl 0 rfl) ?_
  refine va_get (D := D) (ci := 12) (v := .ref (h0 7)) (C := RX13) (T := TX13) (N := 16) hx hb hts iX13 hown hK hP 0 rfl rfl 15 (by decide) (hts _ qfl_X13_36) (fun _ h9 => h9) rfl dX13_parsesTrade_1 ?_
  refine lv_iload_n hx hb dX13_parsesTrade_4 rfl (lv_at hl 1 rfl) ?_
  refine lv_iconst (v := 1) hx hb dX13_parsesTrade_5 (by decide) ?_
  refine lv_iadd hx hb dX13_parsesTrade_6 ?_
  refine lv_aload_n hx hb dX13_parsesTrade_7 rfl (lv_at hl 0 rfl) ?_
  refine lv_iconst (v := 2) hx hb dX13_parsesTrade_8 (by decide) ?_
  obtain ⟨q1, c1, h⟩ := x_call h
  refine xCall (w2 := MW cA h0 q1.2) (xRunV (n := 1) (As := [.int 2]) (rest := [.int (a1 + 1), .ref (h0 7)]) ⟨hx, hb, hml, hown, hts⟩ (kX13_digits l D cA h0 _ N 2 s0 q1 c1) qco_X13_digits qml_X13_212 qin_X13_digits qse_X13_digits qini_X13 (by decide +kernel) (by rw [← erm]; rfl) hK hP hD [0, 1, 2, 3, 4, 5, 6, 7] rfl rfl (q0 := 0) rfl rfl rfl rfl rfl hl.1 rfl (lv_room (Nat.le_of_ble_eq_true rfl)) dX13_parsesTrade_9 ⟨Nat.zero_le _, Nat.zero_le _⟩) hP hD hS hA [0, 1, 2, 3, 4, 5, 6, 7] [] [0, 1, 2, 3, 4, 5, 6, 7] rfl (wr := []) rfl rfl rfl rfl rfl (fun H locs hP hD hS => ?_)
  obtain ⟨k2, hk2, h⟩ := x_rd h
  refine xIast (w2 := fun zz => MW cA h0 ((Ms15 q1.2 zz))) hx hb hK hP hD hS 7 0 rfl rfl hk2 (fun _ => rfl) dX13_parsesTrade_12 (fun g3 eg3 H locs hP hD hS => ?_)
  have h := x_let h eg3
  have hP : va_P D vwCl (MW cA h0 ((Ms15 q1.2 g3))) H := hP
  have hD : va_D A (MW cA h0 ((Ms15 q1.2 g3))) := hD
  refine lv_aload_n hx hb dX13_parsesTrade_13 rfl (lv_at hl 0 rfl) ?_
  refine va_get (D := D) (ci := 12) (v := .ref (h0 7)) (C := RX13) (T := TX13) (N := 16) hx hb hts iX13 hown hK hP 0 rfl rfl 15 (by decide) (hts _ qfl_X13_36) (fun _ h9 => h9) rfl dX13_parsesTrade_14 ?_
  refine lv_iload_n hx hb dX13_parsesTrade_17 rfl (lv_at hl 1 rfl) ?_
  refine lv_iconst (v := 2) hx hb dX13_parsesTrade_18 (by decide) ?_
  refine lv_iadd hx hb dX13_parsesTrade_19 ?_
  refine lv_aload_n hx hb dX13_parsesTrade_20 rfl (lv_at hl 0 rfl) ?_
  refine lv_iconst (v := 3) hx hb dX13_parsesTrade_21 (by decide) ?_
  obtain ⟨q4, c4, h⟩ := x_call h
  refine xCall (w2 := MW cA h0 q4.2) (xRunV (n := 1) (As := [.int 3]) (rest := [.int (a1 + 2), .ref (h0 7)]) ⟨hx, hb, hml, hown, hts⟩ (kX13_digits l D cA h0 _ N 3 ((Ms15 q1.2 g3)) q4 c4) qco_X13_digits qml_X13_212 qin_X13_digits qse_X13_digits qini_X13 (by decide +kernel) (by rw [← erm]; rfl) hK hP hD [0, 1, 2, 3, 4, 5, 6, 7] rfl rfl (q0 := 0) rfl rfl rfl rfl rfl hl.1 rfl (lv_room (Nat.le_of_ble_eq_true rfl)) dX13_parsesTrade_22 ⟨Nat.zero_le _, Nat.zero_le _⟩) hP hD hS hA [0, 1, 2, 3, 4, 5, 6, 7] [] [0, 1, 2, 3, 4, 5, 6, 7] rfl (wr := []) rfl rfl rfl rfl rfl (fun H locs hP hD hS => ?_)
  obtain ⟨k5, hk5, h⟩ := x_rd h
  refine xIast (w2 := fun zz => MW cA h0 ((Ms15 q4.2 zz))) hx hb hK hP hD hS 7 0 rfl rfl hk5 (fun _ => rfl) dX13_parsesTrade_25 (fun g6 eg6 H locs hP hD hS => ?_)
  have h := x_let h eg6
  have hP : va_P D vwCl (MW cA h0 ((Ms15 q4.2 g6))) H := hP
  have hD : va_D A (MW cA h0 ((Ms15 q4.2 g6))) := hD
  have h := Option.some.inj h
  subst h
  exact xVret hx hb hr hlocks hP hK hD hS dX13_parsesTrade_26
def fX13_parsesB (N : Nat) (a1 : Int32) (s0 : MS) : Option (MS) :=
  xcall (fX13_here N s0) fun q1 =>
  xjoin (fun (s0_2 : MS) =>
      some s0_2
    ) fun J103 =>
  if q1 = 117 then
    xrd 240 a1 fun k16 =>
    xlet (upd s0.2.2.2.2.2.2.2.2.2.2.2.2.2.2.2 k16 117) fun g17 =>
    xcall (fX13_needs N 117 ((Ms15 s0 g17))) fun q18 =>
    xcall (fX13_needs N 121 q18) fun q19 =>
    xcall (fX13_parsesTrade N a1 q19) fun q20 =>
    J103 q20
  else
    xcall (fX13_here N s0) fun q4 =>
    if q4 = 105 then
      xrd 240 a1 fun k10 =>
      xlet (upd s0.2.2.2.2.2.2.2.2.2.2.2.2.2.2.2 k10 108) fun g11 =>
      xcall (fX13_needsThree N 105 108 108 ((Ms15 s0 g11))) fun q12 =>
      xcall (fX13_digits N 3 q12) fun q13 =>
      xrd 240 (a1 + 1) fun k14 =>
      xlet (upd q13.2.2.2.2.2.2.2.2.2.2.2.2.2.2.2.2 k14 q13.1) fun g15 =>
      J103 ((Ms15 q13.2 g15))
    else
      xcall (fX13_needsThree N 97 99 107 s0) fun q6 =>
      xcall (fX13_digits N 3 q6) fun q7 =>
      xrd 240 (a1 + 1) fun k8 =>
      xlet (upd q7.2.2.2.2.2.2.2.2.2.2.2.2.2.2.2.2 k8 q7.1) fun g9 =>
      J103 ((Ms15 q7.2 g9))
set_option maxRecDepth 100000 in
set_option maxHeartbeats 4000000 in
theorem kX13_parsesB (l : Launch) (D : va_G) (cA : Nat → ClassId) (h0 : Nat → Nat) (sz N : Nat) (a1 : Int32) (s0 : MS) (q : MS) (h : fX13_parsesB N a1 s0 = some q) : xM l yX13_parsesB cX13_parsesB 2 none ({ frames := 4, cells := 0, slots := 0, locals := 85 }) D cA (MW cA h0 s0) sz [.ref (h0 0), .int a1] (none) (MW cA h0 q) := by
  generalize erm : ({ frames := 4, cells := 0, slots := 0, locals := 85 } : Room) = rm
  refine xMet (by decide) (Nat.le_of_ble_eq_true rfl) ?_
  intro p e s m below meth c hx hb hr hlocks hml hts hown hin hK hP A eA hD hS hA hsz ls hl
  have hl : lv_has ls 2 [(0, .ref (h0 0)), (1, .int a1)] := hl
  clear eA
  rw [fX13_parsesB] at h
  refine lv_aload_n hx hb dX13_parsesB_0 rfl (lv_at hl 0 rfl) ?_
  obtain ⟨q1, c1, h⟩ := x_call h
  refine xCall (w2 := MW cA h0 s0) (xRunV (n := 0) (As := []) (rest := []) ⟨hx, hb, hml, hown, hts⟩ (kX13_here l D cA h0 _ N s0 q1 c1) qco_X13_here qml_X13_206 qin_X13_here qse_X13_here qini_X13 (by decide +kernel) (by rw [← erm]; rfl) hK hP hD [0, 1, 2, 3, 4, 5, 6, 7] rfl rfl (q0 := 0) rfl rfl rfl rfl rfl hl.1 rfl (lv_room (Nat.le_of_ble_eq_true rfl)) dX13_parsesB_1 ⟨Nat.zero_le _, Nat.zero_le _⟩) hP hD hS hA [0, 1, 2, 3, 4, 5, 6, 7] [] [0, 1, 2, 3, 4, 5, 6, 7] rfl (wr := []) rfl rfl rfl rfl rfl (fun H locs hP hD hS => ?_)
  refine lv_bipush (v := 117) hx hb dX13_parsesB_4 (by decide) ?_
  obtain ⟨J103, eJ103, h⟩ := x_join h
  have hJ_J103 : ∀ (s0_2 : MS) (H : Heap) (locs : List Loc), va_P D vwCl (MW cA h0 s0_2) H → va_D A (MW cA h0 s0_2) → va_S A s.heap H locs → ∀ ls : Array Slot, lv_has ls 2 [] → J103 s0_2 = some q → W p l e rm s m ([.ref (h0 0), .int a1] : List Value).toArray below meth c H locs 0 0 (MQ below (xQ D cA A (MW cA h0 q) (none)) ([.ref (h0 0), .int a1] : List Value).toArray s 0 0 A) (F0 m 103 ls []) := by
    clear h hP hD hS hl
    intro s0_2 H locs hP hD hS ls hl h
    rw [eJ103] at h
    have h := Option.some.inj h
    subst h
    exact xVret hx hb hr hlocks hP hK hD hS dX13_parsesB_103
  refine lv_icmp_ne (tgt := 37) hx hb dX13_parsesB_6 (by decide) (fun c3 => ?_) (fun c3 => ?_)
  · have h := x_f h c3
    refine lv_aload_n hx hb dX13_parsesB_37 rfl (lv_at hl 0 rfl) ?_
    obtain ⟨q4, c4, h⟩ := x_call h
    refine xCall (w2 := MW cA h0 s0) (xRunV (n := 0) (As := []) (rest := []) ⟨hx, hb, hml, hown, hts⟩ (kX13_here l D cA h0 _ N s0 q4 c4) qco_X13_here qml_X13_206 qin_X13_here qse_X13_here qini_X13 (by decide +kernel) (by rw [← erm]; rfl) hK hP hD [0, 1, 2, 3, 4, 5, 6, 7] rfl rfl (q0 := 0) rfl rfl rfl rfl rfl hl.1 rfl (lv_room (Nat.le_of_ble_eq_true rfl)) dX13_parsesB_38 ⟨Nat.zero_le _, Nat.zero_le _⟩) hP hD hS hA [0, 1, 2, 3, 4, 5, 6, 7] [] [0, 1, 2, 3, 4, 5, 6, 7] rfl (wr := []) rfl rfl rfl rfl rfl (fun H locs hP hD hS => ?_)
    refine lv_bipush (v := 105) hx hb dX13_parsesB_41 (by decide) ?_
    refine lv_icmp_ne (tgt := 80) hx hb dX13_parsesB_43 (by decide) (fun c5 => ?_) (fun c5 => ?_)
    · have h := x_f h c5
      refine lv_aload_n hx hb dX13_parsesB_80 rfl (lv_at hl 0 rfl) ?_
      refine lv_bipush (v := 97) hx hb dX13_parsesB_81 (by decide) ?_
      refine lv_bipush (v := 99) hx hb dX13_parsesB_83 (by decide) ?_
      refine lv_bipush (v := 107) hx hb dX13_parsesB_85 (by decide) ?_
      obtain ⟨q6, c6, h⟩ := x_call h
      refine xCall (w2 := MW cA h0 q6) (xRunV (n := 3) (As := [.int 97, .int 99, .int 107]) (rest := []) ⟨hx, hb, hml, hown, hts⟩ (kX13_needsThree l D cA h0 _ N 97 99 107 s0 q6 c6) qco_X13_needsThree qml_X13_215 qin_X13_needsThree qse_X13_needsThree qini_X13 (by decide +kernel) (by rw [← erm]; rfl) hK hP hD [0, 1, 2, 3, 4, 5, 6, 7] rfl rfl (q0 := 0) rfl rfl rfl rfl rfl hl.1 rfl (lv_room (Nat.le_of_ble_eq_true rfl)) dX13_parsesB_87 ⟨Nat.zero_le _, Nat.zero_le _⟩) hP hD hS hA [0, 1, 2, 3, 4, 5, 6, 7] [] [0, 1, 2, 3, 4, 5, 6, 7] rfl (wr := []) rfl rfl rfl rfl rfl (fun H locs hP hD hS => ?_)
      refine lv_aload_n hx hb dX13_parsesB_90 rfl (lv_at hl 0 rfl) ?_
      refine va_get (D := D) (ci := 12) (v := .ref (h0 7)) (C := RX13) (T := TX13) (N := 16) hx hb hts iX13 hown hK hP 0 rfl rfl 15 (by decide) (hts _ qfl_X13_36) (fun _ h9 => h9) rfl dX13_parsesB_91 ?_
      refine lv_iload_n hx hb dX13_parsesB_94 rfl (lv_at hl 1 rfl) ?_
      refine lv_iconst (v := 1) hx hb dX13_parsesB_95 (by decide) ?_
      refine lv_iadd hx hb dX13_parsesB_96 ?_
      refine lv_aload_n hx hb dX13_parsesB_97 rfl (lv_at hl 0 rfl) ?_
      refine lv_iconst (v := 3) hx hb dX13_parsesB_98 (by decide) ?_
      obtain ⟨q7, c7, h⟩ := x_call h
      refine xCall (w2 := MW cA h0 q7.2) (xRunV (n := 1) (As := [.int 3]) (rest := [.int (a1 + 1), .ref (h0 7)]) ⟨hx, hb, hml, hown, hts⟩ (kX13_digits l D cA h0 _ N 3 q6 q7 c7) qco_X13_digits qml_X13_212 qin_X13_digits qse_X13_digits qini_X13 (by decide +kernel) (by rw [← erm]; rfl) hK hP hD [0, 1, 2, 3, 4, 5, 6, 7] rfl rfl (q0 := 0) rfl rfl rfl rfl rfl hl.1 rfl (lv_room (Nat.le_of_ble_eq_true rfl)) dX13_parsesB_99 ⟨Nat.zero_le _, Nat.zero_le _⟩) hP hD hS hA [0, 1, 2, 3, 4, 5, 6, 7] [] [0, 1, 2, 3, 4, 5, 6, 7] rfl (wr := []) rfl rfl rfl rfl rfl (fun H locs hP hD hS => ?_)
      obtain ⟨k8, hk8, h⟩ := x_rd h
      refine xIast (w2 := fun zz => MW cA h0 ((Ms15 q7.2 zz))) hx hb hK hP hD hS 7 0 rfl rfl hk8 (fun _ => rfl) dX13_parsesB_102 (fun g9 eg9 H locs hP hD hS => ?_)
      have h := x_let h eg9
      have hP : va_P D vwCl (MW cA h0 ((Ms15 q7.2 g9))) H := hP
      have hD : va_D A (MW cA h0 ((Ms15 q7.2 g9))) := hD
      exact hJ_J103 ((Ms15 q7.2 g9)) _ _ hP hD hS _ (lv_sub hl [] rfl) h
    · have h := x_t h c5
      refine lv_aload_n hx hb dX13_parsesB_46 rfl (lv_at hl 0 rfl) ?_
      refine va_get (D := D) (ci := 12) (v := .ref (h0 7)) (C := RX13) (T := TX13) (N := 16) hx hb hts iX13 hown hK hP 0 rfl rfl 15 (by decide) (hts _ qfl_X13_36) (fun _ h9 => h9) rfl dX13_parsesB_47 ?_
      refine lv_iload_n hx hb dX13_parsesB_50 rfl (lv_at hl 1 rfl) ?_
      refine lv_bipush (v := 108) hx hb dX13_parsesB_51 (by decide) ?_
      obtain ⟨k10, hk10, h⟩ := x_rd h
      refine xIast (w2 := fun zz => MW cA h0 ((Ms15 s0 zz))) hx hb hK hP hD hS 7 0 rfl rfl hk10 (fun _ => rfl) dX13_parsesB_53 (fun g11 eg11 H locs hP hD hS => ?_)
      have h := x_let h eg11
      have hP : va_P D vwCl (MW cA h0 ((Ms15 s0 g11))) H := hP
      have hD : va_D A (MW cA h0 ((Ms15 s0 g11))) := hD
      refine lv_aload_n hx hb dX13_parsesB_54 rfl (lv_at hl 0 rfl) ?_
      refine lv_bipush (v := 105) hx hb dX13_parsesB_55 (by decide) ?_
      refine lv_bipush (v := 108) hx hb dX13_parsesB_57 (by decide) ?_
      refine lv_bipush (v := 108) hx hb dX13_parsesB_59 (by decide) ?_
      obtain ⟨q12, c12, h⟩ := x_call h
      refine xCall (w2 := MW cA h0 q12) (xRunV (n := 3) (As := [.int 105, .int 108, .int 108]) (rest := []) ⟨hx, hb, hml, hown, hts⟩ (kX13_needsThree l D cA h0 _ N 105 108 108 ((Ms15 s0 g11)) q12 c12) qco_X13_needsThree qml_X13_215 qin_X13_needsThree qse_X13_needsThree qini_X13 (by decide +kernel) (by rw [← erm]; rfl) hK hP hD [0, 1, 2, 3, 4, 5, 6, 7] rfl rfl (q0 := 0) rfl rfl rfl rfl rfl hl.1 rfl (lv_room (Nat.le_of_ble_eq_true rfl)) dX13_parsesB_61 ⟨Nat.zero_le _, Nat.zero_le _⟩) hP hD hS hA [0, 1, 2, 3, 4, 5, 6, 7] [] [0, 1, 2, 3, 4, 5, 6, 7] rfl (wr := []) rfl rfl rfl rfl rfl (fun H locs hP hD hS => ?_)
      refine lv_aload_n hx hb dX13_parsesB_64 rfl (lv_at hl 0 rfl) ?_
      refine va_get (D := D) (ci := 12) (v := .ref (h0 7)) (C := RX13) (T := TX13) (N := 16) hx hb hts iX13 hown hK hP 0 rfl rfl 15 (by decide) (hts _ qfl_X13_36) (fun _ h9 => h9) rfl dX13_parsesB_65 ?_
      refine lv_iload_n hx hb dX13_parsesB_68 rfl (lv_at hl 1 rfl) ?_
      refine lv_iconst (v := 1) hx hb dX13_parsesB_69 (by decide) ?_
      refine lv_iadd hx hb dX13_parsesB_70 ?_
      refine lv_aload_n hx hb dX13_parsesB_71 rfl (lv_at hl 0 rfl) ?_
      refine lv_iconst (v := 3) hx hb dX13_parsesB_72 (by decide) ?_
      obtain ⟨q13, c13, h⟩ := x_call h
      refine xCall (w2 := MW cA h0 q13.2) (xRunV (n := 1) (As := [.int 3]) (rest := [.int (a1 + 1), .ref (h0 7)]) ⟨hx, hb, hml, hown, hts⟩ (kX13_digits l D cA h0 _ N 3 q12 q13 c13) qco_X13_digits qml_X13_212 qin_X13_digits qse_X13_digits qini_X13 (by decide +kernel) (by rw [← erm]; rfl) hK hP hD [0, 1, 2, 3, 4, 5, 6, 7] rfl rfl (q0 := 0) rfl rfl rfl rfl rfl hl.1 rfl (lv_room (Nat.le_of_ble_eq_true rfl)) dX13_parsesB_73 ⟨Nat.zero_le _, Nat.zero_le _⟩) hP hD hS hA [0, 1, 2, 3, 4, 5, 6, 7] [] [0, 1, 2, 3, 4, 5, 6, 7] rfl (wr := []) rfl rfl rfl rfl rfl (fun H locs hP hD hS => ?_)
      obtain ⟨k14, hk14, h⟩ := x_rd h
      refine xIast (w2 := fun zz => MW cA h0 ((Ms15 q13.2 zz))) hx hb hK hP hD hS 7 0 rfl rfl hk14 (fun _ => rfl) dX13_parsesB_76 (fun g15 eg15 H locs hP hD hS => ?_)
      have h := x_let h eg15
      have hP : va_P D vwCl (MW cA h0 ((Ms15 q13.2 g15))) H := hP
      have hD : va_D A (MW cA h0 ((Ms15 q13.2 g15))) := hD
      refine lv_goto (tgt := 103) hx hb dX13_parsesB_77 (by decide) ?_
      exact hJ_J103 ((Ms15 q13.2 g15)) _ _ hP hD hS _ (lv_sub hl [] rfl) h
  · have h := x_t h c3
    refine lv_aload_n hx hb dX13_parsesB_9 rfl (lv_at hl 0 rfl) ?_
    refine va_get (D := D) (ci := 12) (v := .ref (h0 7)) (C := RX13) (T := TX13) (N := 16) hx hb hts iX13 hown hK hP 0 rfl rfl 15 (by decide) (hts _ qfl_X13_36) (fun _ h9 => h9) rfl dX13_parsesB_10 ?_
    refine lv_iload_n hx hb dX13_parsesB_13 rfl (lv_at hl 1 rfl) ?_
    refine lv_bipush (v := 117) hx hb dX13_parsesB_14 (by decide) ?_
    obtain ⟨k16, hk16, h⟩ := x_rd h
    refine xIast (w2 := fun zz => MW cA h0 ((Ms15 s0 zz))) hx hb hK hP hD hS 7 0 rfl rfl hk16 (fun _ => rfl) dX13_parsesB_16 (fun g17 eg17 H locs hP hD hS => ?_)
    have h := x_let h eg17
    have hP : va_P D vwCl (MW cA h0 ((Ms15 s0 g17))) H := hP
    have hD : va_D A (MW cA h0 ((Ms15 s0 g17))) := hD
    refine lv_aload_n hx hb dX13_parsesB_17 rfl (lv_at hl 0 rfl) ?_
    refine lv_bipush (v := 117) hx hb dX13_parsesB_18 (by decide) ?_
    obtain ⟨q18, c18, h⟩ := x_call h
    refine xCall (w2 := MW cA h0 q18) (xRunV (n := 1) (As := [.int 117]) (rest := []) ⟨hx, hb, hml, hown, hts⟩ (kX13_needs l D cA h0 _ N 117 ((Ms15 s0 g17)) q18 c18) qco_X13_needs qml_X13_209 qin_X13_needs qse_X13_needs qini_X13 (by decide +kernel) (by rw [← erm]; rfl) hK hP hD [0, 1, 2, 3, 4, 5, 6, 7] rfl rfl (q0 := 0) rfl rfl rfl rfl rfl hl.1 rfl (lv_room (Nat.le_of_ble_eq_true rfl)) dX13_parsesB_20 ⟨Nat.zero_le _, Nat.zero_le _⟩) hP hD hS hA [0, 1, 2, 3, 4, 5, 6, 7] [] [0, 1, 2, 3, 4, 5, 6, 7] rfl (wr := []) rfl rfl rfl rfl rfl (fun H locs hP hD hS => ?_)
    refine lv_aload_n hx hb dX13_parsesB_23 rfl (lv_at hl 0 rfl) ?_
    refine lv_bipush (v := 121) hx hb dX13_parsesB_24 (by decide) ?_
    obtain ⟨q19, c19, h⟩ := x_call h
    refine xCall (w2 := MW cA h0 q19) (xRunV (n := 1) (As := [.int 121]) (rest := []) ⟨hx, hb, hml, hown, hts⟩ (kX13_needs l D cA h0 _ N 121 q18 q19 c19) qco_X13_needs qml_X13_209 qin_X13_needs qse_X13_needs qini_X13 (by decide +kernel) (by rw [← erm]; rfl) hK hP hD [0, 1, 2, 3, 4, 5, 6, 7] rfl rfl (q0 := 0) rfl rfl rfl rfl rfl hl.1 rfl (lv_room (Nat.le_of_ble_eq_true rfl)) dX13_parsesB_26 ⟨Nat.zero_le _, Nat.zero_le _⟩) hP hD hS hA [0, 1, 2, 3, 4, 5, 6, 7] [] [0, 1, 2, 3, 4, 5, 6, 7] rfl (wr := []) rfl rfl rfl rfl rfl (fun H locs hP hD hS => ?_)
    refine lv_aload_n hx hb dX13_parsesB_29 rfl (lv_at hl 0 rfl) ?_
    refine lv_iload_n hx hb dX13_parsesB_30 rfl (lv_at hl 1 rfl) ?_
    obtain ⟨q20, c20, h⟩ := x_call h
    refine xCall (w2 := MW cA h0 q20) (xRunV (n := 1) (As := [.int a1]) (rest := []) ⟨hx, hb, hml, hown, hts⟩ (kX13_parsesTrade l D cA h0 _ N a1 q19 q20 c20) qco_X13_parsesTrade qml_X13_219 qin_X13_parsesTrade qse_X13_parsesTrade qini_X13 (by decide +kernel) (by rw [← erm]; rfl) hK hP hD [0, 1, 2, 3, 4, 5, 6, 7] rfl rfl (q0 := 0) rfl rfl rfl rfl rfl hl.1 rfl (lv_room (Nat.le_of_ble_eq_true rfl)) dX13_parsesB_31 ⟨Nat.zero_le _, Nat.zero_le _⟩) hP hD hS hA [0, 1, 2, 3, 4, 5, 6, 7] [] [0, 1, 2, 3, 4, 5, 6, 7] rfl (wr := []) rfl rfl rfl rfl rfl (fun H locs hP hD hS => ?_)
    refine lv_goto (tgt := 103) hx hb dX13_parsesB_34 (by decide) ?_
    exact hJ_J103 q20 _ _ hP hD hS _ (lv_sub hl [] rfl) h
def fX13_parsesOpen (N : Nat) (a1 : Int32) (s0 : MS) : Option (MS) :=
  xcall (fX13_needsThree N 112 101 110 s0) fun q1 =>
  xcall (fX13_needs N 32 q1) fun q2 =>
  xjoin (fun (t0_3 : Int32) (v1_3 : Int32) (s0_3 : MS) =>
      xnz (xbit t0_3) <|
      xcall (fX13_here N ((Ms14 s0_3 t0_3))) fun q5 =>
      xrd 240 (v1_3 + 1) fun k6 =>
      xlet (upd s0_3.2.2.2.2.2.2.2.2.2.2.2.2.2.2.2 k6 q5) fun g7 =>
      xjoin (fun (t0_8 : Int32) (t1_8 : Int32) (v1_8 : Int32) (s0_8 : MS) =>
          xlet (t1_8 + t0_8) fun x9 =>
          xjoin (fun (t0_10 : Int32) (t1_10 : Int32) (s0_10 : MS) =>
              xrd 240 t1_10 fun k11 =>
              xlet (upd s0_10.2.2.2.2.2.2.2.2.2.2.2.2.2.2.2 k11 t0_10) fun g12 =>
              some ((Ms15 s0_10 g12))
            ) fun J107 =>
          xjoin (fun (t0_13 : Int32) (s0_13 : MS) =>
              J107 (-1) t0_13 s0_13
            ) fun J106 =>
          if s0_8.2.2.2.2.2.2.2.2.2.2.2.2.2.2.1 = 0 then
            xcall (fX13_here N ((Ms13 s0_8 x9))) fun q15 =>
            if q15 = 32 then
              xcall (fX13_digits N 2 ((Ms13 s0_8 x9))) fun q17 =>
              J107 q17.1 (v1_8 + 2) q17.2
            else
              J106 (v1_8 + 2) ((Ms13 s0_8 x9))
          else
            J106 (v1_8 + 2) ((Ms13 s0_8 x9))
        ) fun J71 =>
      if t0_3 = 0 then
        J71 1 s0_3.2.2.2.2.2.2.2.2.2.2.2.2.2.1 v1_3 ((Ms15 (Ms14 s0_3 t0_3) g7))
      else
        J71 0 s0_3.2.2.2.2.2.2.2.2.2.2.2.2.2.1 v1_3 ((Ms15 (Ms14 s0_3 t0_3) g7))
    ) fun J39 =>
  xjoin (fun (v1_19 : Int32) (s0_19 : MS) =>
      J39 1 v1_19 s0_19
    ) fun J34 =>
  if q2.2.2.2.2.2.2.2.2.2.2.2.2.2.2.1 = 0 then
    xcall (fX13_here N q2) fun q21 =>
    xcall (fX13_isKind N q21) fun q22 =>
    if q22 = 0 then
      J34 a1 q2
    else
      J39 0 a1 q2
  else
    J34 a1 q2
set_option maxRecDepth 100000 in
set_option maxHeartbeats 4000000 in
theorem kX13_parsesOpen (l : Launch) (D : va_G) (cA : Nat → ClassId) (h0 : Nat → Nat) (sz N : Nat) (a1 : Int32) (s0 : MS) (q : MS) (h : fX13_parsesOpen N a1 s0 = some q) : xM l yX13_parsesOpen cX13_parsesOpen 2 none ({ frames := 3, cells := 0, slots := 0, locals := 64 }) D cA (MW cA h0 s0) sz [.ref (h0 0), .int a1] (none) (MW cA h0 q) := by
  generalize erm : ({ frames := 3, cells := 0, slots := 0, locals := 64 } : Room) = rm
  refine xMet (by decide) (Nat.le_of_ble_eq_true rfl) ?_
  intro p e s m below meth c hx hb hr hlocks hml hts hown hin hK hP A eA hD hS hA hsz ls hl
  have hl : lv_has ls 2 [(0, .ref (h0 0)), (1, .int a1)] := hl
  clear eA
  rw [fX13_parsesOpen] at h
  refine lv_aload_n hx hb dX13_parsesOpen_0 rfl (lv_at hl 0 rfl) ?_
  refine lv_bipush (v := 112) hx hb dX13_parsesOpen_1 (by decide) ?_
  refine lv_bipush (v := 101) hx hb dX13_parsesOpen_3 (by decide) ?_
  refine lv_bipush (v := 110) hx hb dX13_parsesOpen_5 (by decide) ?_
  obtain ⟨q1, c1, h⟩ := x_call h
  refine xCall (w2 := MW cA h0 q1) (xRunV (n := 3) (As := [.int 112, .int 101, .int 110]) (rest := []) ⟨hx, hb, hml, hown, hts⟩ (kX13_needsThree l D cA h0 _ N 112 101 110 s0 q1 c1) qco_X13_needsThree qml_X13_215 qin_X13_needsThree qse_X13_needsThree qini_X13 (by decide +kernel) (by rw [← erm]; rfl) hK hP hD [0, 1, 2, 3, 4, 5, 6, 7] rfl rfl (q0 := 0) rfl rfl rfl rfl rfl hl.1 rfl (lv_room (Nat.le_of_ble_eq_true rfl)) dX13_parsesOpen_7 ⟨Nat.zero_le _, Nat.zero_le _⟩) hP hD hS hA [0, 1, 2, 3, 4, 5, 6, 7] [] [0, 1, 2, 3, 4, 5, 6, 7] rfl (wr := []) rfl rfl rfl rfl rfl (fun H locs hP hD hS => ?_)
  refine lv_aload_n hx hb dX13_parsesOpen_10 rfl (lv_at hl 0 rfl) ?_
  refine lv_bipush (v := 32) hx hb dX13_parsesOpen_11 (by decide) ?_
  obtain ⟨q2, c2, h⟩ := x_call h
  refine xCall (w2 := MW cA h0 q2) (xRunV (n := 1) (As := [.int 32]) (rest := []) ⟨hx, hb, hml, hown, hts⟩ (kX13_needs l D cA h0 _ N 32 q1 q2 c2) qco_X13_needs qml_X13_209 qin_X13_needs qse_X13_needs qini_X13 (by decide +kernel) (by rw [← erm]; rfl) hK hP hD [0, 1, 2, 3, 4, 5, 6, 7] rfl rfl (q0 := 0) rfl rfl rfl rfl rfl hl.1 rfl (lv_room (Nat.le_of_ble_eq_true rfl)) dX13_parsesOpen_13 ⟨Nat.zero_le _, Nat.zero_le _⟩) hP hD hS hA [0, 1, 2, 3, 4, 5, 6, 7] [] [0, 1, 2, 3, 4, 5, 6, 7] rfl (wr := []) rfl rfl rfl rfl rfl (fun H locs hP hD hS => ?_)
  refine lv_aload_n hx hb dX13_parsesOpen_16 rfl (lv_at hl 0 rfl) ?_
  refine lv_aload_n hx hb dX13_parsesOpen_17 rfl (lv_at hl 0 rfl) ?_
  refine va_get (D := D) (ci := 12) (v := .int q2.2.2.2.2.2.2.2.2.2.2.2.2.2.2.1) (C := RX13) (T := TX13) (N := 16) hx hb hts iX13 hown hK hP 0 rfl rfl 14 (by decide) (hts _ qfl_X13_202) (fun _ h9 => h9) rfl dX13_parsesOpen_18 ?_
  obtain ⟨J39, eJ39, h⟩ := x_join h
  have hJ_J39 : ∀ (t0_3 : Int32) (v1_3 : Int32) (s0_3 : MS) (H : Heap) (locs : List Loc), va_P D vwCl (MW cA h0 s0_3) H → va_D A (MW cA h0 s0_3) → va_S A s.heap H locs → ∀ ls : Array Slot, lv_has ls 2 [(0, .ref (h0 0)), (1, .int v1_3)] → J39 t0_3 v1_3 s0_3 = some q → W p l e rm s m ([.ref (h0 0), .int a1] : List Value).toArray below meth c H locs 0 0 (MQ below (xQ D cA A (MW cA h0 q) (none)) ([.ref (h0 0), .int a1] : List Value).toArray s 0 0 A) (F0 m 39 ls [.int t0_3, .ref (h0 0)]) := by
    clear h hP hD hS hl
    intro t0_3 v1_3 s0_3 H locs hP hD hS ls hl h
    rw [eJ39] at h
    obtain ⟨z4, h⟩ := x_nz h
    refine va_put (D := D) (ci := 12) (v := .int t0_3) (ty := .boolean) (C := RX13) (T := TX13) (N := 16) hx hb hts iX13 tyX13 tyX13_ok nmX13 hown hK hP hD hS 0 rfl rfl 14 (by decide) (hts _ qfl_X13_202) (fun _ h9 => h9) rfl (by decide +kernel) (xbit_n z4) (xbit_f z4) (Nat.le_of_ble_eq_true rfl) dX13_parsesOpen_39 (fun H locs hP hD hS => ?_)
    have hP : va_P D vwCl (MW cA h0 ((Ms14 s0_3 t0_3))) H := hP
    have hD : va_D A (MW cA h0 ((Ms14 s0_3 t0_3))) := hD
    refine lv_aload_n hx hb dX13_parsesOpen_42 rfl (lv_at hl 0 rfl) ?_
    refine va_get (D := D) (ci := 12) (v := .ref (h0 7)) (C := RX13) (T := TX13) (N := 16) hx hb hts iX13 hown hK hP 0 rfl rfl 15 (by decide) (hts _ qfl_X13_36) (fun _ h9 => h9) rfl dX13_parsesOpen_43 ?_
    refine lv_iload_n hx hb dX13_parsesOpen_46 rfl (lv_at hl 1 rfl) ?_
    refine lv_iconst (v := 1) hx hb dX13_parsesOpen_47 (by decide) ?_
    refine lv_iadd hx hb dX13_parsesOpen_48 ?_
    refine lv_aload_n hx hb dX13_parsesOpen_49 rfl (lv_at hl 0 rfl) ?_
    obtain ⟨q5, c5, h⟩ := x_call h
    refine xCall (w2 := MW cA h0 ((Ms14 s0_3 t0_3))) (xRunV (n := 0) (As := []) (rest := [.int (v1_3 + 1), .ref (h0 7)]) ⟨hx, hb, hml, hown, hts⟩ (kX13_here l D cA h0 _ N ((Ms14 s0_3 t0_3)) q5 c5) qco_X13_here qml_X13_206 qin_X13_here qse_X13_here qini_X13 (by decide +kernel) (by rw [← erm]; rfl) hK hP hD [0, 1, 2, 3, 4, 5, 6, 7] rfl rfl (q0 := 0) rfl rfl rfl rfl rfl hl.1 rfl (lv_room (Nat.le_of_ble_eq_true rfl)) dX13_parsesOpen_50 ⟨Nat.zero_le _, Nat.zero_le _⟩) hP hD hS hA [0, 1, 2, 3, 4, 5, 6, 7] [] [0, 1, 2, 3, 4, 5, 6, 7] rfl (wr := []) rfl rfl rfl rfl rfl (fun H locs hP hD hS => ?_)
    obtain ⟨k6, hk6, h⟩ := x_rd h
    refine xIast (w2 := fun zz => MW cA h0 ((Ms15 (Ms14 s0_3 t0_3) zz))) hx hb hK hP hD hS 7 0 rfl rfl hk6 (fun _ => rfl) dX13_parsesOpen_53 (fun g7 eg7 H locs hP hD hS => ?_)
    have h := x_let h eg7
    have hP : va_P D vwCl (MW cA h0 ((Ms15 (Ms14 s0_3 t0_3) g7))) H := hP
    have hD : va_D A (MW cA h0 ((Ms15 (Ms14 s0_3 t0_3) g7))) := hD
    refine lv_aload_n hx hb dX13_parsesOpen_54 rfl (lv_at hl 0 rfl) ?_
    refine lv_dup hx hb dX13_parsesOpen_55 rfl ?_
    refine va_get (D := D) (ci := 12) (v := .int s0_3.2.2.2.2.2.2.2.2.2.2.2.2.2.1) (C := RX13) (T := TX13) (N := 16) hx hb hts iX13 hown hK hP 0 rfl rfl 13 (by decide) (hts _ qfl_X13_199) (fun _ h9 => h9) rfl dX13_parsesOpen_56 ?_
    refine lv_aload_n hx hb dX13_parsesOpen_59 rfl (lv_at hl 0 rfl) ?_
    refine va_get (D := D) (ci := 12) (v := .int t0_3) (C := RX13) (T := TX13) (N := 16) hx hb hts iX13 hown hK hP 0 rfl rfl 14 (by decide) (hts _ qfl_X13_202) (fun _ h9 => h9) rfl dX13_parsesOpen_60 ?_
    obtain ⟨J71, eJ71, h⟩ := x_join h
    have hJ_J71 : ∀ (t0_8 : Int32) (t1_8 : Int32) (v1_8 : Int32) (s0_8 : MS) (H : Heap) (locs : List Loc), va_P D vwCl (MW cA h0 s0_8) H → va_D A (MW cA h0 s0_8) → va_S A s.heap H locs → ∀ ls : Array Slot, lv_has ls 2 [(0, .ref (h0 0)), (1, .int v1_8)] → J71 t0_8 t1_8 v1_8 s0_8 = some q → W p l e rm s m ([.ref (h0 0), .int a1] : List Value).toArray below meth c H locs 0 0 (MQ below (xQ D cA A (MW cA h0 q) (none)) ([.ref (h0 0), .int a1] : List Value).toArray s 0 0 A) (F0 m 71 ls [.int t0_8, .int t1_8, .ref (h0 0)]) := by
      clear h hP hD hS hl
      intro t0_8 t1_8 v1_8 s0_8 H locs hP hD hS ls hl h
      rw [eJ71] at h
      refine lv_iadd hx hb dX13_parsesOpen_71 ?_
      refine lv_topi (fun x9 ex9 => ?_)
      have h := x_let h ex9
      refine va_put (D := D) (ci := 12) (v := .int x9) (ty := .int) (C := RX13) (T := TX13) (N := 16) hx hb hts iX13 tyX13 tyX13_ok nmX13 hown hK hP hD hS 0 rfl rfl 13 (by decide) (hts _ qfl_X13_199) (fun _ h9 => h9) rfl (by decide +kernel) rfl rfl (Nat.le_of_ble_eq_true rfl) dX13_parsesOpen_72 (fun H locs hP hD hS => ?_)
      have hP : va_P D vwCl (MW cA h0 ((Ms13 s0_8 x9))) H := hP
      have hD : va_D A (MW cA h0 ((Ms13 s0_8 x9))) := hD
      refine lv_aload_n hx hb dX13_parsesOpen_75 rfl (lv_at hl 0 rfl) ?_
      refine va_get (D := D) (ci := 12) (v := .ref (h0 7)) (C := RX13) (T := TX13) (N := 16) hx hb hts iX13 hown hK hP 0 rfl rfl 15 (by decide) (hts _ qfl_X13_36) (fun _ h9 => h9) rfl dX13_parsesOpen_76 ?_
      refine lv_iload_n hx hb dX13_parsesOpen_79 rfl (lv_at hl 1 rfl) ?_
      refine lv_iconst (v := 2) hx hb dX13_parsesOpen_80 (by decide) ?_
      refine lv_iadd hx hb dX13_parsesOpen_81 ?_
      refine lv_aload_n hx hb dX13_parsesOpen_82 rfl (lv_at hl 0 rfl) ?_
      refine va_get (D := D) (ci := 12) (v := .int s0_8.2.2.2.2.2.2.2.2.2.2.2.2.2.2.1) (C := RX13) (T := TX13) (N := 16) hx hb hts iX13 hown hK hP 0 rfl rfl 14 (by decide) (hts _ qfl_X13_202) (fun _ h9 => h9) rfl dX13_parsesOpen_83 ?_
      obtain ⟨J107, eJ107, h⟩ := x_join h
      have hJ_J107 : ∀ (t0_10 : Int32) (t1_10 : Int32) (s0_10 : MS) (H : Heap) (locs : List Loc), va_P D vwCl (MW cA h0 s0_10) H → va_D A (MW cA h0 s0_10) → va_S A s.heap H locs → ∀ ls : Array Slot, lv_has ls 2 [] → J107 t0_10 t1_10 s0_10 = some q → W p l e rm s m ([.ref (h0 0), .int a1] : List Value).toArray below meth c H locs 0 0 (MQ below (xQ D cA A (MW cA h0 q) (none)) ([.ref (h0 0), .int a1] : List Value).toArray s 0 0 A) (F0 m 107 ls [.int t0_10, .int t1_10, .ref (h0 7)]) := by
        clear h hP hD hS hl
        intro t0_10 t1_10 s0_10 H locs hP hD hS ls hl h
        rw [eJ107] at h
        obtain ⟨k11, hk11, h⟩ := x_rd h
        refine xIast (w2 := fun zz => MW cA h0 ((Ms15 s0_10 zz))) hx hb hK hP hD hS 7 0 rfl rfl hk11 (fun _ => rfl) dX13_parsesOpen_107 (fun g12 eg12 H locs hP hD hS => ?_)
        have h := x_let h eg12
        have hP : va_P D vwCl (MW cA h0 ((Ms15 s0_10 g12))) H := hP
        have hD : va_D A (MW cA h0 ((Ms15 s0_10 g12))) := hD
        have h := Option.some.inj h
        subst h
        exact xVret hx hb hr hlocks hP hK hD hS dX13_parsesOpen_108
      obtain ⟨J106, eJ106, h⟩ := x_join h
      have hJ_J106 : ∀ (t0_13 : Int32) (s0_13 : MS) (H : Heap) (locs : List Loc), va_P D vwCl (MW cA h0 s0_13) H → va_D A (MW cA h0 s0_13) → va_S A s.heap H locs → ∀ ls : Array Slot, lv_has ls 2 [] → J106 t0_13 s0_13 = some q → W p l e rm s m ([.ref (h0 0), .int a1] : List Value).toArray below meth c H locs 0 0 (MQ below (xQ D cA A (MW cA h0 q) (none)) ([.ref (h0 0), .int a1] : List Value).toArray s 0 0 A) (F0 m 106 ls [.int t0_13, .ref (h0 7)]) := by
        clear h hP hD hS hl
        intro t0_13 s0_13 H locs hP hD hS ls hl h
        rw [eJ106] at h
        refine lv_iconst (v := (-1)) hx hb dX13_parsesOpen_106 (by decide) ?_
        exact hJ_J107 (-1) t0_13 s0_13 _ _ hP hD hS _ (lv_sub hl [] rfl) h
      refine lv_if_ne (tgt := 106) hx hb dX13_parsesOpen_86 (by decide) (fun c14 => ?_) (fun c14 => ?_)
      · have h := x_f h c14
        exact hJ_J106 (v1_8 + 2) ((Ms13 s0_8 x9)) _ _ hP hD hS _ (lv_sub hl [] rfl) h
      · have h := x_t h c14
        refine lv_aload_n hx hb dX13_parsesOpen_89 rfl (lv_at hl 0 rfl) ?_
        obtain ⟨q15, c15, h⟩ := x_call h
        refine xCall (w2 := MW cA h0 ((Ms13 s0_8 x9))) (xRunV (n := 0) (As := []) (rest := [.int (v1_8 + 2), .ref (h0 7)]) ⟨hx, hb, hml, hown, hts⟩ (kX13_here l D cA h0 _ N ((Ms13 s0_8 x9)) q15 c15) qco_X13_here qml_X13_206 qin_X13_here qse_X13_here qini_X13 (by decide +kernel) (by rw [← erm]; rfl) hK hP hD [0, 1, 2, 3, 4, 5, 6, 7] rfl rfl (q0 := 0) rfl rfl rfl rfl rfl hl.1 rfl (lv_room (Nat.le_of_ble_eq_true rfl)) dX13_parsesOpen_90 ⟨Nat.zero_le _, Nat.zero_le _⟩) hP hD hS hA [0, 1, 2, 3, 4, 5, 6, 7] [] [0, 1, 2, 3, 4, 5, 6, 7] rfl (wr := []) rfl rfl rfl rfl rfl (fun H locs hP hD hS => ?_)
        refine lv_bipush (v := 32) hx hb dX13_parsesOpen_93 (by decide) ?_
        refine lv_icmp_ne (tgt := 106) hx hb dX13_parsesOpen_95 (by decide) (fun c16 => ?_) (fun c16 => ?_)
        · have h := x_f h c16
          exact hJ_J106 (v1_8 + 2) ((Ms13 s0_8 x9)) _ _ hP hD hS _ (lv_sub hl [] rfl) h
        · have h := x_t h c16
          refine lv_aload_n hx hb dX13_parsesOpen_98 rfl (lv_at hl 0 rfl) ?_
          refine lv_iconst (v := 2) hx hb dX13_parsesOpen_99 (by decide) ?_
          obtain ⟨q17, c17, h⟩ := x_call h
          refine xCall (w2 := MW cA h0 q17.2) (xRunV (n := 1) (As := [.int 2]) (rest := [.int (v1_8 + 2), .ref (h0 7)]) ⟨hx, hb, hml, hown, hts⟩ (kX13_digits l D cA h0 _ N 2 ((Ms13 s0_8 x9)) q17 c17) qco_X13_digits qml_X13_212 qin_X13_digits qse_X13_digits qini_X13 (by decide +kernel) (by rw [← erm]; rfl) hK hP hD [0, 1, 2, 3, 4, 5, 6, 7] rfl rfl (q0 := 0) rfl rfl rfl rfl rfl hl.1 rfl (lv_room (Nat.le_of_ble_eq_true rfl)) dX13_parsesOpen_100 ⟨Nat.zero_le _, Nat.zero_le _⟩) hP hD hS hA [0, 1, 2, 3, 4, 5, 6, 7] [] [0, 1, 2, 3, 4, 5, 6, 7] rfl (wr := []) rfl rfl rfl rfl rfl (fun H locs hP hD hS => ?_)
          refine lv_goto (tgt := 107) hx hb dX13_parsesOpen_103 (by decide) ?_
          exact hJ_J107 q17.1 (v1_8 + 2) q17.2 _ _ hP hD hS _ (lv_sub hl [] rfl) h
    refine lv_if_eq (tgt := 70) hx hb dX13_parsesOpen_63 (by decide) (fun c18 => ?_) (fun c18 => ?_)
    · have h := x_t h c18
      refine lv_iconst (v := 1) hx hb dX13_parsesOpen_70 (by decide) ?_
      exact hJ_J71 1 s0_3.2.2.2.2.2.2.2.2.2.2.2.2.2.1 v1_3 ((Ms15 (Ms14 s0_3 t0_3) g7)) _ _ hP hD hS _ (lv_sub hl [0, 1] rfl) h
    · have h := x_f h c18
      refine lv_iconst (v := 0) hx hb dX13_parsesOpen_66 (by decide) ?_
      refine lv_goto (tgt := 71) hx hb dX13_parsesOpen_67 (by decide) ?_
      exact hJ_J71 0 s0_3.2.2.2.2.2.2.2.2.2.2.2.2.2.1 v1_3 ((Ms15 (Ms14 s0_3 t0_3) g7)) _ _ hP hD hS _ (lv_sub hl [0, 1] rfl) h
  obtain ⟨J34, eJ34, h⟩ := x_join h
  have hJ_J34 : ∀ (v1_19 : Int32) (s0_19 : MS) (H : Heap) (locs : List Loc), va_P D vwCl (MW cA h0 s0_19) H → va_D A (MW cA h0 s0_19) → va_S A s.heap H locs → ∀ ls : Array Slot, lv_has ls 2 [(0, .ref (h0 0)), (1, .int v1_19)] → J34 v1_19 s0_19 = some q → W p l e rm s m ([.ref (h0 0), .int a1] : List Value).toArray below meth c H locs 0 0 (MQ below (xQ D cA A (MW cA h0 q) (none)) ([.ref (h0 0), .int a1] : List Value).toArray s 0 0 A) (F0 m 34 ls [.ref (h0 0)]) := by
    clear h hP hD hS hl
    intro v1_19 s0_19 H locs hP hD hS ls hl h
    rw [eJ34] at h
    refine lv_iconst (v := 1) hx hb dX13_parsesOpen_34 (by decide) ?_
    refine lv_goto (tgt := 39) hx hb dX13_parsesOpen_35 (by decide) ?_
    exact hJ_J39 1 v1_19 s0_19 _ _ hP hD hS _ (lv_sub hl [0, 1] rfl) h
  refine lv_if_ne (tgt := 34) hx hb dX13_parsesOpen_21 (by decide) (fun c20 => ?_) (fun c20 => ?_)
  · have h := x_f h c20
    exact hJ_J34 a1 q2 _ _ hP hD hS _ (lv_sub hl [0, 1] rfl) h
  · have h := x_t h c20
    refine lv_aload_n hx hb dX13_parsesOpen_24 rfl (lv_at hl 0 rfl) ?_
    obtain ⟨q21, c21, h⟩ := x_call h
    refine xCall (w2 := MW cA h0 q2) (xRunV (n := 0) (As := []) (rest := [.ref (h0 0)]) ⟨hx, hb, hml, hown, hts⟩ (kX13_here l D cA h0 _ N q2 q21 c21) qco_X13_here qml_X13_206 qin_X13_here qse_X13_here qini_X13 (by decide +kernel) (by rw [← erm]; rfl) hK hP hD [0, 1, 2, 3, 4, 5, 6, 7] rfl rfl (q0 := 0) rfl rfl rfl rfl rfl hl.1 rfl (lv_room (Nat.le_of_ble_eq_true rfl)) dX13_parsesOpen_25 ⟨Nat.zero_le _, Nat.zero_le _⟩) hP hD hS hA [0, 1, 2, 3, 4, 5, 6, 7] [] [0, 1, 2, 3, 4, 5, 6, 7] rfl (wr := []) rfl rfl rfl rfl rfl (fun H locs hP hD hS => ?_)
    obtain ⟨q22, c22, h⟩ := x_call h
    refine xCall (w2 := MW cA h0 q2) (xRunS (n := 1) (As := [.int q21]) (rest := [.ref (h0 0)]) ⟨hx, hb, hml, hown, hts⟩ (kX13_isKind l D cA  _ N q21 q22 c22) qco_X13_isKind qml_X13_66 qst_X13_isKind qini_X13 (by decide +kernel) (by rw [← erm]; rfl) hK hP hD [] rfl rfl rfl rfl hl.1 rfl (lv_room (Nat.le_of_ble_eq_true rfl)) dX13_parsesOpen_28 ⟨Nat.zero_le _, Nat.zero_le _⟩) hP hD hS hA [] [0, 1, 2, 3, 4, 5, 6, 7] [0, 1, 2, 3, 4, 5, 6, 7] rfl (wr := [(h0 0, .inr (12, [.ref (h0 1), .ref (h0 2), .ref (h0 3), .int (q2.2.2.2.1), .ref (h0 4), .int (q2.2.2.2.2.2.1), .ref (h0 5), .int (q2.2.2.2.2.2.2.2.1), .int (q2.2.2.2.2.2.2.2.2.1), .int (q2.2.2.2.2.2.2.2.2.2.1), .ref (h0 6), .int (q2.2.2.2.2.2.2.2.2.2.2.2.1), .int (q2.2.2.2.2.2.2.2.2.2.2.2.2.1), .int (q2.2.2.2.2.2.2.2.2.2.2.2.2.2.1), .int (q2.2.2.2.2.2.2.2.2.2.2.2.2.2.2.1), .ref (h0 7)])), (h0 1, .inl (cA 0, 229, .inl (q2.1))), (h0 2, .inl (cA 0, 229, .inl (q2.2.1))), (h0 3, .inl (cA 0, 1832, .inl (q2.2.2.1))), (h0 4, .inl (cA 0, 229, .inl (q2.2.2.2.2.1))), (h0 5, .inl (cA 1, 60, .inl (q2.2.2.2.2.2.2.1))), (h0 6, .inl (cA 1, 60, .inl (q2.2.2.2.2.2.2.2.2.2.2.1))), (h0 7, .inl (cA 0, 240, .inl (q2.2.2.2.2.2.2.2.2.2.2.2.2.2.2.2)))]) rfl rfl rfl rfl rfl (fun H locs hP hD hS => ?_)
    refine lv_if_ne (tgt := 38) hx hb dX13_parsesOpen_31 (by decide) (fun c23 => ?_) (fun c23 => ?_)
    · have h := x_f h c23
      refine lv_iconst (v := 0) hx hb dX13_parsesOpen_38 (by decide) ?_
      exact hJ_J39 0 a1 q2 _ _ hP hD hS _ (lv_sub hl [0, 1] rfl) h
    · have h := x_t h c23
      exact hJ_J34 a1 q2 _ _ hP hD hS _ (lv_sub hl [0, 1] rfl) h
def fX13_parsesCommand (N : Nat) (a1 : Int32) (s0 : MS) : Option (MS) :=
  xcall (fX13_here N s0) fun q1 =>
  xlet (s0.2.2.2.2.2.2.2.2.2.2.2.2.2.1 + 1) fun x2 =>
  xrd 240 a1 fun k3 =>
  xlet (upd s0.2.2.2.2.2.2.2.2.2.2.2.2.2.2.2 k3 q1) fun g4 =>
  xjoin (fun (s0_5 : MS) =>
      some s0_5
    ) fun J206 =>
  if q1 = 98 then
    xcall (fX13_parsesB N a1 ((Ms15 (Ms13 s0 x2) g4))) fun q7 =>
    J206 q7
  else
  if q1 = 99 then
    xcall (fX13_needsThree N 117 114 116 ((Ms15 (Ms13 s0 x2) g4))) fun q8 =>
    xcall (fX13_needsThree N 97 105 110 q8) fun q9 =>
    J206 q9
  else
  if q1 = 111 then
    xcall (fX13_parsesOpen N a1 ((Ms15 (Ms13 s0 x2) g4))) fun q10 =>
    J206 q10
  else
  if q1 = 112 then
    xcall (fX13_parsesP N a1 ((Ms15 (Ms13 s0 x2) g4))) fun q11 =>
    J206 q11
  else
  if q1 = 115 then
    xcall (fX13_needsThree N 101 108 108 ((Ms15 (Ms13 s0 x2) g4))) fun q12 =>
    xcall (fX13_parsesTrade N a1 q12) fun q13 =>
    J206 q13
  else
  if q1 = 119 then
    xcall (fX13_needsThree N 97 105 116 ((Ms15 (Ms13 s0 x2) g4))) fun q14 =>
    xjoin (fun (t0_15 : Int32) (t1_15 : Int32) (s0_15 : MS) =>
        xrd 240 t1_15 fun k16 =>
        xlet (upd s0_15.2.2.2.2.2.2.2.2.2.2.2.2.2.2.2 k16 t0_15) fun g17 =>
        J206 ((Ms15 s0_15 g17))
      ) fun J164 =>
    xjoin (fun (t0_18 : Int32) (s0_18 : MS) =>
        J164 1 t0_18 s0_18
      ) fun J163 =>
    if q14.2.2.2.2.2.2.2.2.2.2.2.2.2.2.1 = 0 then
      xcall (fX13_here N q14) fun q20 =>
      if q20 = 32 then
        xcall (fX13_digits N 2 q14) fun q22 =>
        J164 q22.1 (a1 + 1) q22.2
      else
        J163 (a1 + 1) q14
    else
      J163 (a1 + 1) q14
  else
  xlet (x2 - 1) fun x23 =>
  J206 ((Ms15 (Ms14 (Ms13 s0 x23) 1) g4))
set_option maxRecDepth 100000 in
set_option maxHeartbeats 4000000 in
theorem kX13_parsesCommand (l : Launch) (D : va_G) (cA : Nat → ClassId) (h0 : Nat → Nat) (sz N : Nat) (a1 : Int32) (s0 : MS) (q : MS) (h : fX13_parsesCommand N a1 s0 = some q) : xM l yX13_parsesCommand cX13_parsesCommand 3 none ({ frames := 5, cells := 0, slots := 0, locals := 106 }) D cA (MW cA h0 s0) sz [.ref (h0 0), .int a1] (none) (MW cA h0 q) := by
  generalize erm : ({ frames := 5, cells := 0, slots := 0, locals := 106 } : Room) = rm
  refine xMet (by decide) (Nat.le_of_ble_eq_true rfl) ?_
  intro p e s m below meth c hx hb hr hlocks hml hts hown hin hK hP A eA hD hS hA hsz ls hl
  have hl : lv_has ls 3 [(0, .ref (h0 0)), (1, .int a1)] := hl
  clear eA
  rw [fX13_parsesCommand] at h
  refine lv_aload_n hx hb dX13_parsesCommand_0 rfl (lv_at hl 0 rfl) ?_
  obtain ⟨q1, c1, h⟩ := x_call h
  refine xCall (w2 := MW cA h0 s0) (xRunV (n := 0) (As := []) (rest := []) ⟨hx, hb, hml, hown, hts⟩ (kX13_here l D cA h0 _ N s0 q1 c1) qco_X13_here qml_X13_206 qin_X13_here qse_X13_here qini_X13 (by decide +kernel) (by rw [← erm]; rfl) hK hP hD [0, 1, 2, 3, 4, 5, 6, 7] rfl rfl (q0 := 0) rfl rfl rfl rfl rfl hl.1 rfl (lv_room (Nat.le_of_ble_eq_true rfl)) dX13_parsesCommand_1 ⟨Nat.zero_le _, Nat.zero_le _⟩) hP hD hS hA [0, 1, 2, 3, 4, 5, 6, 7] [] [0, 1, 2, 3, 4, 5, 6, 7] rfl (wr := []) rfl rfl rfl rfl rfl (fun H locs hP hD hS => ?_)
  refine lv_istore_n (lv' := [(2, .int q1), (0, .ref (h0 0)), (1, .int a1)]) hx hb dX13_parsesCommand_4 rfl hl (by decide) rfl (fun ls hl => ?_)
  refine lv_aload_n hx hb dX13_parsesCommand_5 rfl (lv_at hl 1 rfl) ?_
  refine lv_dup hx hb dX13_parsesCommand_6 rfl ?_
  refine va_get (D := D) (ci := 12) (v := .int s0.2.2.2.2.2.2.2.2.2.2.2.2.2.1) (C := RX13) (T := TX13) (N := 16) hx hb hts iX13 hown hK hP 0 rfl rfl 13 (by decide) (hts _ qfl_X13_199) (fun _ h9 => h9) rfl dX13_parsesCommand_7 ?_
  refine lv_iconst (v := 1) hx hb dX13_parsesCommand_10 (by decide) ?_
  refine lv_iadd hx hb dX13_parsesCommand_11 ?_
  refine lv_topi (fun x2 ex2 => ?_)
  have h := x_let h ex2
  refine va_put (D := D) (ci := 12) (v := .int x2) (ty := .int) (C := RX13) (T := TX13) (N := 16) hx hb hts iX13 tyX13 tyX13_ok nmX13 hown hK hP hD hS 0 rfl rfl 13 (by decide) (hts _ qfl_X13_199) (fun _ h9 => h9) rfl (by decide +kernel) rfl rfl (Nat.le_of_ble_eq_true rfl) dX13_parsesCommand_12 (fun H locs hP hD hS => ?_)
  have hP : va_P D vwCl (MW cA h0 ((Ms13 s0 x2))) H := hP
  have hD : va_D A (MW cA h0 ((Ms13 s0 x2))) := hD
  refine lv_aload_n hx hb dX13_parsesCommand_15 rfl (lv_at hl 1 rfl) ?_
  refine va_get (D := D) (ci := 12) (v := .ref (h0 7)) (C := RX13) (T := TX13) (N := 16) hx hb hts iX13 hown hK hP 0 rfl rfl 15 (by decide) (hts _ qfl_X13_36) (fun _ h9 => h9) rfl dX13_parsesCommand_16 ?_
  refine lv_iload_n hx hb dX13_parsesCommand_19 rfl (lv_at hl 2 rfl) ?_
  refine lv_iload_n hx hb dX13_parsesCommand_20 rfl (lv_at hl 0 rfl) ?_
  obtain ⟨k3, hk3, h⟩ := x_rd h
  refine xIast (w2 := fun zz => MW cA h0 ((Ms15 (Ms13 s0 x2) zz))) hx hb hK hP hD hS 7 0 rfl rfl hk3 (fun _ => rfl) dX13_parsesCommand_21 (fun g4 eg4 H locs hP hD hS => ?_)
  have h := x_let h eg4
  have hP : va_P D vwCl (MW cA h0 ((Ms15 (Ms13 s0 x2) g4))) H := hP
  have hD : va_D A (MW cA h0 ((Ms15 (Ms13 s0 x2) g4))) := hD
  refine lv_iload_n hx hb dX13_parsesCommand_22 rfl (lv_at hl 0 rfl) ?_
  obtain ⟨J206, eJ206, h⟩ := x_join h
  have hJ_J206 : ∀ (s0_5 : MS) (H : Heap) (locs : List Loc), va_P D vwCl (MW cA h0 s0_5) H → va_D A (MW cA h0 s0_5) → va_S A s.heap H locs → ∀ ls : Array Slot, lv_has ls 3 [] → J206 s0_5 = some q → W p l e rm s m ([.ref (h0 0), .int a1] : List Value).toArray below meth c H locs 0 0 (MQ below (xQ D cA A (MW cA h0 q) (none)) ([.ref (h0 0), .int a1] : List Value).toArray s 0 0 A) (F0 m 206 ls []) := by
    clear h hP hD hS hl
    intro s0_5 H locs hP hD hS ls hl h
    rw [eJ206] at h
    have h := Option.some.inj h
    subst h
    exact xVret hx hb hr hlocks hP hK hD hS dX13_parsesCommand_206
  by_cases c6_0 : q1 = 98
  · have h := x_t h c6_0
    rw [c6_0]
    refine lv_lookup (tgt := 88) (off := 65) hx hb dX13_parsesCommand_23 (by decide) (by decide) (by decide) ?_
    refine lv_aload_n hx hb dX13_parsesCommand_88 rfl (lv_at hl 1 rfl) ?_
    refine lv_iload_n hx hb dX13_parsesCommand_89 rfl (lv_at hl 2 rfl) ?_
    obtain ⟨q7, c7, h⟩ := x_call h
    refine xCall (w2 := MW cA h0 q7) (xRunV (n := 1) (As := [.int a1]) (rest := []) ⟨hx, hb, hml, hown, hts⟩ (kX13_parsesB l D cA h0 _ N a1 ((Ms15 (Ms13 s0 x2) g4)) q7 c7) qco_X13_parsesB qml_X13_225 qin_X13_parsesB qse_X13_parsesB qini_X13 (by decide +kernel) (by rw [← erm]; rfl) hK hP hD [0, 1, 2, 3, 4, 5, 6, 7] rfl rfl (q0 := 0) rfl rfl rfl rfl rfl hl.1 rfl (lv_room (Nat.le_of_ble_eq_true rfl)) dX13_parsesCommand_90 ⟨Nat.zero_le _, Nat.zero_le _⟩) hP hD hS hA [0, 1, 2, 3, 4, 5, 6, 7] [] [0, 1, 2, 3, 4, 5, 6, 7] rfl (wr := []) rfl rfl rfl rfl rfl (fun H locs hP hD hS => ?_)
    refine lv_goto (tgt := 206) hx hb dX13_parsesCommand_93 (by decide) ?_
    exact hJ_J206 q7 _ _ hP hD hS _ (lv_sub hl [] rfl) h
  have h := x_f h c6_0
  by_cases c6_1 : q1 = 99
  · have h := x_t h c6_1
    rw [c6_1]
    refine lv_lookup (tgt := 168) (off := 145) hx hb dX13_parsesCommand_23 (by decide) (by decide) (by decide) ?_
    refine lv_aload_n hx hb dX13_parsesCommand_168 rfl (lv_at hl 1 rfl) ?_
    refine lv_bipush (v := 117) hx hb dX13_parsesCommand_169 (by decide) ?_
    refine lv_bipush (v := 114) hx hb dX13_parsesCommand_171 (by decide) ?_
    refine lv_bipush (v := 116) hx hb dX13_parsesCommand_173 (by decide) ?_
    obtain ⟨q8, c8, h⟩ := x_call h
    refine xCall (w2 := MW cA h0 q8) (xRunV (n := 3) (As := [.int 117, .int 114, .int 116]) (rest := []) ⟨hx, hb, hml, hown, hts⟩ (kX13_needsThree l D cA h0 _ N 117 114 116 ((Ms15 (Ms13 s0 x2) g4)) q8 c8) qco_X13_needsThree qml_X13_215 qin_X13_needsThree qse_X13_needsThree qini_X13 (by decide +kernel) (by rw [← erm]; rfl) hK hP hD [0, 1, 2, 3, 4, 5, 6, 7] rfl rfl (q0 := 0) rfl rfl rfl rfl rfl hl.1 rfl (lv_room (Nat.le_of_ble_eq_true rfl)) dX13_parsesCommand_175 ⟨Nat.zero_le _, Nat.zero_le _⟩) hP hD hS hA [0, 1, 2, 3, 4, 5, 6, 7] [] [0, 1, 2, 3, 4, 5, 6, 7] rfl (wr := []) rfl rfl rfl rfl rfl (fun H locs hP hD hS => ?_)
    refine lv_aload_n hx hb dX13_parsesCommand_178 rfl (lv_at hl 1 rfl) ?_
    refine lv_bipush (v := 97) hx hb dX13_parsesCommand_179 (by decide) ?_
    refine lv_bipush (v := 105) hx hb dX13_parsesCommand_181 (by decide) ?_
    refine lv_bipush (v := 110) hx hb dX13_parsesCommand_183 (by decide) ?_
    obtain ⟨q9, c9, h⟩ := x_call h
    refine xCall (w2 := MW cA h0 q9) (xRunV (n := 3) (As := [.int 97, .int 105, .int 110]) (rest := []) ⟨hx, hb, hml, hown, hts⟩ (kX13_needsThree l D cA h0 _ N 97 105 110 q8 q9 c9) qco_X13_needsThree qml_X13_215 qin_X13_needsThree qse_X13_needsThree qini_X13 (by decide +kernel) (by rw [← erm]; rfl) hK hP hD [0, 1, 2, 3, 4, 5, 6, 7] rfl rfl (q0 := 0) rfl rfl rfl rfl rfl hl.1 rfl (lv_room (Nat.le_of_ble_eq_true rfl)) dX13_parsesCommand_185 ⟨Nat.zero_le _, Nat.zero_le _⟩) hP hD hS hA [0, 1, 2, 3, 4, 5, 6, 7] [] [0, 1, 2, 3, 4, 5, 6, 7] rfl (wr := []) rfl rfl rfl rfl rfl (fun H locs hP hD hS => ?_)
    refine lv_goto (tgt := 206) hx hb dX13_parsesCommand_188 (by decide) ?_
    exact hJ_J206 q9 _ _ hP hD hS _ (lv_sub hl [] rfl) h
  have h := x_f h c6_1
  by_cases c6_2 : q1 = 111
  · have h := x_t h c6_2
    rw [c6_2]
    refine lv_lookup (tgt := 96) (off := 73) hx hb dX13_parsesCommand_23 (by decide) (by decide) (by decide) ?_
    refine lv_aload_n hx hb dX13_parsesCommand_96 rfl (lv_at hl 1 rfl) ?_
    refine lv_iload_n hx hb dX13_parsesCommand_97 rfl (lv_at hl 2 rfl) ?_
    obtain ⟨q10, c10, h⟩ := x_call h
    refine xCall (w2 := MW cA h0 q10) (xRunV (n := 1) (As := [.int a1]) (rest := []) ⟨hx, hb, hml, hown, hts⟩ (kX13_parsesOpen l D cA h0 _ N a1 ((Ms15 (Ms13 s0 x2) g4)) q10 c10) qco_X13_parsesOpen qml_X13_228 qin_X13_parsesOpen qse_X13_parsesOpen qini_X13 (by decide +kernel) (by rw [← erm]; rfl) hK hP hD [0, 1, 2, 3, 4, 5, 6, 7] rfl rfl (q0 := 0) rfl rfl rfl rfl rfl hl.1 rfl (lv_room (Nat.le_of_ble_eq_true rfl)) dX13_parsesCommand_98 ⟨Nat.zero_le _, Nat.zero_le _⟩) hP hD hS hA [0, 1, 2, 3, 4, 5, 6, 7] [] [0, 1, 2, 3, 4, 5, 6, 7] rfl (wr := []) rfl rfl rfl rfl rfl (fun H locs hP hD hS => ?_)
    refine lv_goto (tgt := 206) hx hb dX13_parsesCommand_101 (by decide) ?_
    exact hJ_J206 q10 _ _ hP hD hS _ (lv_sub hl [] rfl) h
  have h := x_f h c6_2
  by_cases c6_3 : q1 = 112
  · have h := x_t h c6_3
    rw [c6_3]
    refine lv_lookup (tgt := 80) (off := 57) hx hb dX13_parsesCommand_23 (by decide) (by decide) (by decide) ?_
    refine lv_aload_n hx hb dX13_parsesCommand_80 rfl (lv_at hl 1 rfl) ?_
    refine lv_iload_n hx hb dX13_parsesCommand_81 rfl (lv_at hl 2 rfl) ?_
    obtain ⟨q11, c11, h⟩ := x_call h
    refine xCall (w2 := MW cA h0 q11) (xRunV (n := 1) (As := [.int a1]) (rest := []) ⟨hx, hb, hml, hown, hts⟩ (kX13_parsesP l D cA h0 _ N a1 ((Ms15 (Ms13 s0 x2) g4)) q11 c11) qco_X13_parsesP qml_X13_222 qin_X13_parsesP qse_X13_parsesP qini_X13 (by decide +kernel) (by rw [← erm]; rfl) hK hP hD [0, 1, 2, 3, 4, 5, 6, 7] rfl rfl (q0 := 0) rfl rfl rfl rfl rfl hl.1 rfl (lv_room (Nat.le_of_ble_eq_true rfl)) dX13_parsesCommand_82 ⟨Nat.zero_le _, Nat.zero_le _⟩) hP hD hS hA [0, 1, 2, 3, 4, 5, 6, 7] [] [0, 1, 2, 3, 4, 5, 6, 7] rfl (wr := []) rfl rfl rfl rfl rfl (fun H locs hP hD hS => ?_)
    refine lv_goto (tgt := 206) hx hb dX13_parsesCommand_85 (by decide) ?_
    exact hJ_J206 q11 _ _ hP hD hS _ (lv_sub hl [] rfl) h
  have h := x_f h c6_3
  by_cases c6_4 : q1 = 115
  · have h := x_t h c6_4
    rw [c6_4]
    refine lv_lookup (tgt := 104) (off := 81) hx hb dX13_parsesCommand_23 (by decide) (by decide) (by decide) ?_
    refine lv_aload_n hx hb dX13_parsesCommand_104 rfl (lv_at hl 1 rfl) ?_
    refine lv_bipush (v := 101) hx hb dX13_parsesCommand_105 (by decide) ?_
    refine lv_bipush (v := 108) hx hb dX13_parsesCommand_107 (by decide) ?_
    refine lv_bipush (v := 108) hx hb dX13_parsesCommand_109 (by decide) ?_
    obtain ⟨q12, c12, h⟩ := x_call h
    refine xCall (w2 := MW cA h0 q12) (xRunV (n := 3) (As := [.int 101, .int 108, .int 108]) (rest := []) ⟨hx, hb, hml, hown, hts⟩ (kX13_needsThree l D cA h0 _ N 101 108 108 ((Ms15 (Ms13 s0 x2) g4)) q12 c12) qco_X13_needsThree qml_X13_215 qin_X13_needsThree qse_X13_needsThree qini_X13 (by decide +kernel) (by rw [← erm]; rfl) hK hP hD [0, 1, 2, 3, 4, 5, 6, 7] rfl rfl (q0 := 0) rfl rfl rfl rfl rfl hl.1 rfl (lv_room (Nat.le_of_ble_eq_true rfl)) dX13_parsesCommand_111 ⟨Nat.zero_le _, Nat.zero_le _⟩) hP hD hS hA [0, 1, 2, 3, 4, 5, 6, 7] [] [0, 1, 2, 3, 4, 5, 6, 7] rfl (wr := []) rfl rfl rfl rfl rfl (fun H locs hP hD hS => ?_)
    refine lv_aload_n hx hb dX13_parsesCommand_114 rfl (lv_at hl 1 rfl) ?_
    refine lv_iload_n hx hb dX13_parsesCommand_115 rfl (lv_at hl 2 rfl) ?_
    obtain ⟨q13, c13, h⟩ := x_call h
    refine xCall (w2 := MW cA h0 q13) (xRunV (n := 1) (As := [.int a1]) (rest := []) ⟨hx, hb, hml, hown, hts⟩ (kX13_parsesTrade l D cA h0 _ N a1 q12 q13 c13) qco_X13_parsesTrade qml_X13_219 qin_X13_parsesTrade qse_X13_parsesTrade qini_X13 (by decide +kernel) (by rw [← erm]; rfl) hK hP hD [0, 1, 2, 3, 4, 5, 6, 7] rfl rfl (q0 := 0) rfl rfl rfl rfl rfl hl.1 rfl (lv_room (Nat.le_of_ble_eq_true rfl)) dX13_parsesCommand_116 ⟨Nat.zero_le _, Nat.zero_le _⟩) hP hD hS hA [0, 1, 2, 3, 4, 5, 6, 7] [] [0, 1, 2, 3, 4, 5, 6, 7] rfl (wr := []) rfl rfl rfl rfl rfl (fun H locs hP hD hS => ?_)
    refine lv_goto (tgt := 206) hx hb dX13_parsesCommand_119 (by decide) ?_
    exact hJ_J206 q13 _ _ hP hD hS _ (lv_sub hl [] rfl) h
  have h := x_f h c6_4
  by_cases c6_5 : q1 = 119
  · have h := x_t h c6_5
    rw [c6_5]
    refine lv_lookup (tgt := 122) (off := 99) hx hb dX13_parsesCommand_23 (by decide) (by decide) (by decide) ?_
    refine lv_aload_n hx hb dX13_parsesCommand_122 rfl (lv_at hl 1 rfl) ?_
    refine lv_bipush (v := 97) hx hb dX13_parsesCommand_123 (by decide) ?_
    refine lv_bipush (v := 105) hx hb dX13_parsesCommand_125 (by decide) ?_
    refine lv_bipush (v := 116) hx hb dX13_parsesCommand_127 (by decide) ?_
    obtain ⟨q14, c14, h⟩ := x_call h
    refine xCall (w2 := MW cA h0 q14) (xRunV (n := 3) (As := [.int 97, .int 105, .int 116]) (rest := []) ⟨hx, hb, hml, hown, hts⟩ (kX13_needsThree l D cA h0 _ N 97 105 116 ((Ms15 (Ms13 s0 x2) g4)) q14 c14) qco_X13_needsThree qml_X13_215 qin_X13_needsThree qse_X13_needsThree qini_X13 (by decide +kernel) (by rw [← erm]; rfl) hK hP hD [0, 1, 2, 3, 4, 5, 6, 7] rfl rfl (q0 := 0) rfl rfl rfl rfl rfl hl.1 rfl (lv_room (Nat.le_of_ble_eq_true rfl)) dX13_parsesCommand_129 ⟨Nat.zero_le _, Nat.zero_le _⟩) hP hD hS hA [0, 1, 2, 3, 4, 5, 6, 7] [] [0, 1, 2, 3, 4, 5, 6, 7] rfl (wr := []) rfl rfl rfl rfl rfl (fun H locs hP hD hS => ?_)
    refine lv_aload_n hx hb dX13_parsesCommand_132 rfl (lv_at hl 1 rfl) ?_
    refine va_get (D := D) (ci := 12) (v := .ref (h0 7)) (C := RX13) (T := TX13) (N := 16) hx hb hts iX13 hown hK hP 0 rfl rfl 15 (by decide) (hts _ qfl_X13_36) (fun _ h9 => h9) rfl dX13_parsesCommand_133 ?_
    refine lv_iload_n hx hb dX13_parsesCommand_136 rfl (lv_at hl 2 rfl) ?_
    refine lv_iconst (v := 1) hx hb dX13_parsesCommand_137 (by decide) ?_
    refine lv_iadd hx hb dX13_parsesCommand_138 ?_
    refine lv_aload_n hx hb dX13_parsesCommand_139 rfl (lv_at hl 1 rfl) ?_
    refine va_get (D := D) (ci := 12) (v := .int q14.2.2.2.2.2.2.2.2.2.2.2.2.2.2.1) (C := RX13) (T := TX13) (N := 16) hx hb hts iX13 hown hK hP 0 rfl rfl 14 (by decide) (hts _ qfl_X13_202) (fun _ h9 => h9) rfl dX13_parsesCommand_140 ?_
    obtain ⟨J164, eJ164, h⟩ := x_join h
    have hJ_J164 : ∀ (t0_15 : Int32) (t1_15 : Int32) (s0_15 : MS) (H : Heap) (locs : List Loc), va_P D vwCl (MW cA h0 s0_15) H → va_D A (MW cA h0 s0_15) → va_S A s.heap H locs → ∀ ls : Array Slot, lv_has ls 3 [] → J164 t0_15 t1_15 s0_15 = some q → W p l e rm s m ([.ref (h0 0), .int a1] : List Value).toArray below meth c H locs 0 0 (MQ below (xQ D cA A (MW cA h0 q) (none)) ([.ref (h0 0), .int a1] : List Value).toArray s 0 0 A) (F0 m 164 ls [.int t0_15, .int t1_15, .ref (h0 7)]) := by
      clear h hP hD hS hl
      intro t0_15 t1_15 s0_15 H locs hP hD hS ls hl h
      rw [eJ164] at h
      obtain ⟨k16, hk16, h⟩ := x_rd h
      refine xIast (w2 := fun zz => MW cA h0 ((Ms15 s0_15 zz))) hx hb hK hP hD hS 7 0 rfl rfl hk16 (fun _ => rfl) dX13_parsesCommand_164 (fun g17 eg17 H locs hP hD hS => ?_)
      have h := x_let h eg17
      have hP : va_P D vwCl (MW cA h0 ((Ms15 s0_15 g17))) H := hP
      have hD : va_D A (MW cA h0 ((Ms15 s0_15 g17))) := hD
      refine lv_goto (tgt := 206) hx hb dX13_parsesCommand_165 (by decide) ?_
      exact hJ_J206 ((Ms15 s0_15 g17)) _ _ hP hD hS _ (lv_sub hl [] rfl) h
    obtain ⟨J163, eJ163, h⟩ := x_join h
    have hJ_J163 : ∀ (t0_18 : Int32) (s0_18 : MS) (H : Heap) (locs : List Loc), va_P D vwCl (MW cA h0 s0_18) H → va_D A (MW cA h0 s0_18) → va_S A s.heap H locs → ∀ ls : Array Slot, lv_has ls 3 [] → J163 t0_18 s0_18 = some q → W p l e rm s m ([.ref (h0 0), .int a1] : List Value).toArray below meth c H locs 0 0 (MQ below (xQ D cA A (MW cA h0 q) (none)) ([.ref (h0 0), .int a1] : List Value).toArray s 0 0 A) (F0 m 163 ls [.int t0_18, .ref (h0 7)]) := by
      clear h hP hD hS hl
      intro t0_18 s0_18 H locs hP hD hS ls hl h
      rw [eJ163] at h
      refine lv_iconst (v := 1) hx hb dX13_parsesCommand_163 (by decide) ?_
      exact hJ_J164 1 t0_18 s0_18 _ _ hP hD hS _ (lv_sub hl [] rfl) h
    refine lv_if_ne (tgt := 163) hx hb dX13_parsesCommand_143 (by decide) (fun c19 => ?_) (fun c19 => ?_)
    · have h := x_f h c19
      exact hJ_J163 (a1 + 1) q14 _ _ hP hD hS _ (lv_sub hl [] rfl) h
    · have h := x_t h c19
      refine lv_aload_n hx hb dX13_parsesCommand_146 rfl (lv_at hl 1 rfl) ?_
      obtain ⟨q20, c20, h⟩ := x_call h
      refine xCall (w2 := MW cA h0 q14) (xRunV (n := 0) (As := []) (rest := [.int (a1 + 1), .ref (h0 7)]) ⟨hx, hb, hml, hown, hts⟩ (kX13_here l D cA h0 _ N q14 q20 c20) qco_X13_here qml_X13_206 qin_X13_here qse_X13_here qini_X13 (by decide +kernel) (by rw [← erm]; rfl) hK hP hD [0, 1, 2, 3, 4, 5, 6, 7] rfl rfl (q0 := 0) rfl rfl rfl rfl rfl hl.1 rfl (lv_room (Nat.le_of_ble_eq_true rfl)) dX13_parsesCommand_147 ⟨Nat.zero_le _, Nat.zero_le _⟩) hP hD hS hA [0, 1, 2, 3, 4, 5, 6, 7] [] [0, 1, 2, 3, 4, 5, 6, 7] rfl (wr := []) rfl rfl rfl rfl rfl (fun H locs hP hD hS => ?_)
      refine lv_bipush (v := 32) hx hb dX13_parsesCommand_150 (by decide) ?_
      refine lv_icmp_ne (tgt := 163) hx hb dX13_parsesCommand_152 (by decide) (fun c21 => ?_) (fun c21 => ?_)
      · have h := x_f h c21
        exact hJ_J163 (a1 + 1) q14 _ _ hP hD hS _ (lv_sub hl [] rfl) h
      · have h := x_t h c21
        refine lv_aload_n hx hb dX13_parsesCommand_155 rfl (lv_at hl 1 rfl) ?_
        refine lv_iconst (v := 2) hx hb dX13_parsesCommand_156 (by decide) ?_
        obtain ⟨q22, c22, h⟩ := x_call h
        refine xCall (w2 := MW cA h0 q22.2) (xRunV (n := 1) (As := [.int 2]) (rest := [.int (a1 + 1), .ref (h0 7)]) ⟨hx, hb, hml, hown, hts⟩ (kX13_digits l D cA h0 _ N 2 q14 q22 c22) qco_X13_digits qml_X13_212 qin_X13_digits qse_X13_digits qini_X13 (by decide +kernel) (by rw [← erm]; rfl) hK hP hD [0, 1, 2, 3, 4, 5, 6, 7] rfl rfl (q0 := 0) rfl rfl rfl rfl rfl hl.1 rfl (lv_room (Nat.le_of_ble_eq_true rfl)) dX13_parsesCommand_157 ⟨Nat.zero_le _, Nat.zero_le _⟩) hP hD hS hA [0, 1, 2, 3, 4, 5, 6, 7] [] [0, 1, 2, 3, 4, 5, 6, 7] rfl (wr := []) rfl rfl rfl rfl rfl (fun H locs hP hD hS => ?_)
        refine lv_goto (tgt := 164) hx hb dX13_parsesCommand_160 (by decide) ?_
        exact hJ_J164 q22.1 (a1 + 1) q22.2 _ _ hP hD hS _ (lv_sub hl [] rfl) h
  have h := x_f h c6_5
  refine lv_lookup (tgt := 191) (off := 168) hx hb dX13_parsesCommand_23 (by decide) (xLook [98, 99, 111, 112, 115, 119] (by simp only [List.forall_mem_cons]; exact ⟨c6_0, c6_1, c6_2, c6_3, c6_4, c6_5, fun _ h9 => absurd h9 List.not_mem_nil⟩) (by decide +kernel)) (by decide) ?_
  refine lv_aload_n hx hb dX13_parsesCommand_191 rfl (lv_at hl 1 rfl) ?_
  refine lv_iconst (v := 1) hx hb dX13_parsesCommand_192 (by decide) ?_
  refine va_put (D := D) (ci := 12) (v := .int 1) (ty := .boolean) (C := RX13) (T := TX13) (N := 16) hx hb hts iX13 tyX13 tyX13_ok nmX13 hown hK hP hD hS 0 rfl rfl 14 (by decide) (hts _ qfl_X13_202) (fun _ h9 => h9) rfl (by decide +kernel) (by decide) (by decide) (Nat.le_of_ble_eq_true rfl) dX13_parsesCommand_193 (fun H locs hP hD hS => ?_)
  have hP : va_P D vwCl (MW cA h0 ((Ms15 (Ms14 (Ms13 s0 x2) 1) g4))) H := hP
  have hD : va_D A (MW cA h0 ((Ms15 (Ms14 (Ms13 s0 x2) 1) g4))) := hD
  refine lv_aload_n hx hb dX13_parsesCommand_196 rfl (lv_at hl 1 rfl) ?_
  refine lv_dup hx hb dX13_parsesCommand_197 rfl ?_
  refine va_get (D := D) (ci := 12) (v := .int x2) (C := RX13) (T := TX13) (N := 16) hx hb hts iX13 hown hK hP 0 rfl rfl 13 (by decide) (hts _ qfl_X13_199) (fun _ h9 => h9) rfl dX13_parsesCommand_198 ?_
  refine lv_iconst (v := 1) hx hb dX13_parsesCommand_201 (by decide) ?_
  refine lv_isub hx hb dX13_parsesCommand_202 ?_
  refine lv_topi (fun x23 ex23 => ?_)
  have h := x_let h ex23
  refine va_put (D := D) (ci := 12) (v := .int x23) (ty := .int) (C := RX13) (T := TX13) (N := 16) hx hb hts iX13 tyX13 tyX13_ok nmX13 hown hK hP hD hS 0 rfl rfl 13 (by decide) (hts _ qfl_X13_199) (fun _ h9 => h9) rfl (by decide +kernel) rfl rfl (Nat.le_of_ble_eq_true rfl) dX13_parsesCommand_203 (fun H locs hP hD hS => ?_)
  have hP : va_P D vwCl (MW cA h0 ((Ms15 (Ms14 (Ms13 s0 x23) 1) g4))) H := hP
  have hD : va_D A (MW cA h0 ((Ms15 (Ms14 (Ms13 s0 x23) 1) g4))) := hD
  exact hJ_J206 ((Ms15 (Ms14 (Ms13 s0 x23) 1) g4)) _ _ hP hD hS _ (lv_sub hl [] rfl) h
