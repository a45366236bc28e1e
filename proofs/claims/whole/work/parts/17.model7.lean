/-! the reference, method by method: what it computes, and that its bytes compute it -/
def fX13_outputChar (N : Nat) (a1 : Int32) (s0 : MS) : Option (Int32 × MS) :=
  xcall (fX13_in N a1 0 (s0.2.2.2.2.2.2.2.2.2.2.2.1 - 1)) fun q1 =>
  xjoin (fun (t0_2 : Int32) (v1_2 : Int32) (s0_2 : MS) =>
      xjoin (fun (t0_3 : Int32) (s0_3 : MS) =>
          xnz (xnar .char t0_3) <|
          some (t0_3, s0_3)
        ) fun J40 =>
      if t0_2 = 0 then
        xrd 60 v1_2 fun k6 =>
        J40 (s0_2.2.2.2.2.2.2.2.2.2.2.1 k6) ((Ms12 s0_2 t0_2))
      else
        J40 0 ((Ms12 s0_2 t0_2))
    ) fun J20 =>
  if q1 = 0 then
    J20 1 a1 s0
  else
    J20 0 a1 s0
set_option maxRecDepth 100000 in
set_option maxHeartbeats 4000000 in
theorem kX13_outputChar (l : Launch) (D : va_G) (cA : Nat → ClassId) (h0 : Nat → Nat) (sz N : Nat) (a1 : Int32) (s0 : MS) (q : Int32 × MS) (h : fX13_outputChar N a1 s0 = some q) : xM l yX13_outputChar cX13_outputChar 2 (some .char) ({ frames := 1, cells := 0, slots := 0, locals := 22 }) D cA (MW cA h0 s0) sz [.ref (h0 0), .int a1] (some (.int q.1)) (MW cA h0 q.2) := by
  generalize erm : ({ frames := 1, cells := 0, slots := 0, locals := 22 } : Room) = rm
  refine xMet (by decide) (Nat.le_of_ble_eq_true rfl) ?_
  intro p e s m below meth c hx hb hr hlocks hml hts hown hin hK hP A eA hD hS hA hsz ls hl
  have hl : lv_has ls 2 [(0, .ref (h0 0)), (1, .int a1)] := hl
  clear eA
  rw [fX13_outputChar] at h
  refine lv_aload_n hx hb dX13_outputChar_0 rfl (lv_at hl 0 rfl) ?_
  refine lv_iload_n hx hb dX13_outputChar_1 rfl (lv_at hl 1 rfl) ?_
  refine lv_iconst (v := 0) hx hb dX13_outputChar_2 (by decide) ?_
  refine lv_aload_n hx hb dX13_outputChar_3 rfl (lv_at hl 0 rfl) ?_
  refine va_get (D := D) (ci := 12) (v := .int s0.2.2.2.2.2.2.2.2.2.2.2.1) (C := RX13) (T := TX13) (N := 16) hx hb hts iX13 hown hK hP 0 rfl rfl 11 (by decide) (hts _ qfl_X13_240) (fun _ h9 => h9) rfl dX13_outputChar_4 ?_
  refine lv_iconst (v := 1) hx hb dX13_outputChar_7 (by decide) ?_
  refine lv_isub hx hb dX13_outputChar_8 ?_
  obtain ⟨q1, c1, h⟩ := x_call h
  refine xCall (w2 := MW cA h0 s0) (xRunS (n := 3) (As := [.int a1, .int 0, .int (s0.2.2.2.2.2.2.2.2.2.2.2.1 - 1)]) (rest := [.ref (h0 0)]) ⟨hx, hb, hml, hown, hts⟩ (kX13_in l D cA  _ N a1 0 (s0.2.2.2.2.2.2.2.2.2.2.2.1 - 1) q1 c1) qco_X13_in qml_X13_49 qst_X13_in qini_X13 (by decide +kernel) (by rw [← erm]; rfl) hK hP hD [] rfl rfl rfl rfl hl.1 rfl (lv_room (Nat.le_of_ble_eq_true rfl)) dX13_outputChar_9 ⟨Nat.zero_le _, Nat.zero_le _⟩) hP hD hS hA [] [0, 1, 2, 3, 4, 5, 6, 7] [0, 1, 2, 3, 4, 5, 6, 7] rfl (wr := [(h0 0, .inr (12, [.ref (h0 1), .ref (h0 2), .ref (h0 3), .int (s0.2.2.2.1), .ref (h0 4), .int (s0.2.2.2.2.2.1), .ref (h0 5), .int (s0.2.2.2.2.2.2.2.1), .int (s0.2.2.2.2.2.2.2.2.1), .int (s0.2.2.2.2.2.2.2.2.2.1), .ref (h0 6), .int (s0.2.2.2.2.2.2.2.2.2.2.2.1), .int (s0.2.2.2.2.2.2.2.2.2.2.2.2.1), .int (s0.2.2.2.2.2.2.2.2.2.2.2.2.2.1), .int (s0.2.2.2.2.2.2.2.2.2.2.2.2.2.2.1), .ref (h0 7)])), (h0 1, .inl (cA 0, 229, .inl (s0.1))), (h0 2, .inl (cA 0, 229, .inl (s0.2.1))), (h0 3, .inl (cA 0, 1832, .inl (s0.2.2.1))), (h0 4, .inl (cA 0, 229, .inl (s0.2.2.2.2.1))), (h0 5, .inl (cA 1, 60, .inl (s0.2.2.2.2.2.2.1))), (h0 6, .inl (cA 1, 60, .inl (s0.2.2.2.2.2.2.2.2.2.2.1))), (h0 7, .inl (cA 0, 240, .inl (s0.2.2.2.2.2.2.2.2.2.2.2.2.2.2.2)))]) rfl rfl rfl rfl rfl (fun H locs hP hD hS => ?_)
  obtain ⟨J20, eJ20, h⟩ := x_join h
  have hJ_J20 : ∀ (t0_2 : Int32) (v1_2 : Int32) (s0_2 : MS) (H : Heap) (locs : List Loc), va_P D vwCl (MW cA h0 s0_2) H → va_D A (MW cA h0 s0_2) → va_S A s.heap H locs → ∀ ls : Array Slot, lv_has ls 2 [(0, .ref (h0 0)), (1, .int v1_2)] → J20 t0_2 v1_2 s0_2 = some q → W p l e rm s m ([.ref (h0 0), .int a1] : List Value).toArray below meth c H locs 0 0 (MQ below (xQ D cA A (MW cA h0 q.2) (some (.int q.1))) ([.ref (h0 0), .int a1] : List Value).toArray s 0 0 A) (F0 m 20 ls [.int t0_2, .ref (h0 0)]) := by
    clear h hP hD hS hl
    intro t0_2 v1_2 s0_2 H locs hP hD hS ls hl h
    rw [eJ20] at h
    refine va_put (D := D) (ci := 12) (v := .int t0_2) (ty := .int) (C := RX13) (T := TX13) (N := 16) hx hb hts iX13 tyX13 tyX13_ok nmX13 hown hK hP hD hS 0 rfl rfl 12 (by decide) (hts _ qfl_X13_39) (fun _ h9 => h9) rfl (by decide +kernel) rfl rfl (Nat.le_of_ble_eq_true rfl) dX13_outputChar_20 (fun H locs hP hD hS => ?_)
    have hP : va_P D vwCl (MW cA h0 ((Ms12 s0_2 t0_2))) H := hP
    have hD : va_D A (MW cA h0 ((Ms12 s0_2 t0_2))) := hD
    refine lv_aload_n hx hb dX13_outputChar_23 rfl (lv_at hl 0 rfl) ?_
    refine va_get (D := D) (ci := 12) (v := .int t0_2) (C := RX13) (T := TX13) (N := 16) hx hb hts iX13 hown hK hP 0 rfl rfl 12 (by decide) (hts _ qfl_X13_39) (fun _ h9 => h9) rfl dX13_outputChar_24 ?_
    obtain ⟨J40, eJ40, h⟩ := x_join h
    have hJ_J40 : ∀ (t0_3 : Int32) (s0_3 : MS) (H : Heap) (locs : List Loc), va_P D vwCl (MW cA h0 s0_3) H → va_D A (MW cA h0 s0_3) → va_S A s.heap H locs → ∀ ls : Array Slot, lv_has ls 2 [] → J40 t0_3 s0_3 = some q → W p l e rm s m ([.ref (h0 0), .int a1] : List Value).toArray below meth c H locs 0 0 (MQ below (xQ D cA A (MW cA h0 q.2) (some (.int q.1))) ([.ref (h0 0), .int a1] : List Value).toArray s 0 0 A) (F0 m 40 ls [.int t0_3]) := by
      clear h hP hD hS hl
      intro t0_3 s0_3 H locs hP hD hS ls hl h
      rw [eJ40] at h
      obtain ⟨z4, h⟩ := x_nz h
      have h := Option.some.inj h
      subst h
      exact xZret hx hb hr hlocks (xnar_n z4) hP hK hD hS dX13_outputChar_40
    refine lv_if_ne (tgt := 39) hx hb dX13_outputChar_27 (by decide) (fun c5 => ?_) (fun c5 => ?_)
    · have h := x_f h c5
      refine lv_iconst (v := 0) hx hb dX13_outputChar_39 (by decide) ?_
      exact hJ_J40 0 ((Ms12 s0_2 t0_2)) _ _ hP hD hS _ (lv_sub hl [] rfl) h
    · have h := x_t h c5
      refine lv_aload_n hx hb dX13_outputChar_30 rfl (lv_at hl 0 rfl) ?_
      refine va_get (D := D) (ci := 12) (v := .ref (h0 6)) (C := RX13) (T := TX13) (N := 16) hx hb hts iX13 hown hK hP 0 rfl rfl 10 (by decide) (hts _ qfl_X13_33) (fun _ h9 => h9) rfl dX13_outputChar_31 ?_
      refine lv_iload_n hx hb dX13_outputChar_34 rfl (lv_at hl 1 rfl) ?_
      obtain ⟨k6, hk6, h⟩ := x_rd h
      refine xCald hx hb hK hP 6 1 rfl rfl hk6 dX13_outputChar_35 ?_
      refine lv_goto (tgt := 40) hx hb dX13_outputChar_36 (by decide) ?_
      exact hJ_J40 (s0_2.2.2.2.2.2.2.2.2.2.2.1 k6) ((Ms12 s0_2 t0_2)) _ _ hP hD hS _ (lv_sub hl [] rfl) h
  refine lv_if_eq (tgt := 19) hx hb dX13_outputChar_12 (by decide) (fun c7 => ?_) (fun c7 => ?_)
  · have h := x_t h c7
    refine lv_iconst (v := 1) hx hb dX13_outputChar_19 (by decide) ?_
    exact hJ_J20 1 a1 s0 _ _ hP hD hS _ (lv_sub hl [0, 1] rfl) h
  · have h := x_f h c7
    refine lv_iconst (v := 0) hx hb dX13_outputChar_15 (by decide) ?_
    refine lv_goto (tgt := 20) hx hb dX13_outputChar_16 (by decide) ?_
    exact hJ_J20 0 a1 s0 _ _ hP hD hS _ (lv_sub hl [0, 1] rfl) h
def fX13_undoCount (N : Nat)  (s0 : MS) : Option (Int32 × MS) :=
  xcall (fX13_done N s0.2.2.2.1 s0) fun q1 =>
  some (q1.1, q1.2)
set_option maxRecDepth 100000 in
set_option maxHeartbeats 4000000 in
theorem kX13_undoCount (l : Launch) (D : va_G) (cA : Nat → ClassId) (h0 : Nat → Nat) (sz N : Nat)  (s0 : MS) (q : Int32 × MS) (h : fX13_undoCount N s0 = some q) : xM l yX13_undoCount cX13_undoCount 1 (some .int) ({ frames := 1, cells := 0, slots := 0, locals := 21 }) D cA (MW cA h0 s0) sz [.ref (h0 0)] (some (.int q.1)) (MW cA h0 q.2) := by
  generalize erm : ({ frames := 1, cells := 0, slots := 0, locals := 21 } : Room) = rm
  refine xMet (by decide) (Nat.le_of_ble_eq_true rfl) ?_
  intro p e s m below meth c hx hb hr hlocks hml hts hown hin hK hP A eA hD hS hA hsz ls hl
  have hl : lv_has ls 1 [(0, .ref (h0 0))] := hl
  clear eA
  rw [fX13_undoCount] at h
  refine lv_aload_n hx hb dX13_undoCount_0 rfl (lv_at hl 0 rfl) ?_
  refine lv_aload_n hx hb dX13_undoCount_1 rfl (lv_at hl 0 rfl) ?_
  refine va_get (D := D) (ci := 12) (v := .int s0.2.2.2.1) (C := RX13) (T := TX13) (N := 16) hx hb hts iX13 hown hK hP 0 rfl rfl 3 (by decide) (hts _ qfl_X13_46) (fun _ h9 => h9) rfl dX13_undoCount_2 ?_
  obtain ⟨q1, c1, h⟩ := x_call h
  refine xCall (w2 := MW cA h0 q1.2) (xRunV (n := 1) (As := [.int s0.2.2.2.1]) (rest := []) ⟨hx, hb, hml, hown, hts⟩ (kX13_done l D cA h0 _ N s0.2.2.2.1 s0 q1 c1) qco_X13_done qml_X13_60 qin_X13_done qse_X13_done qini_X13 (by decide +kernel) (by rw [← erm]; rfl) hK hP hD [0, 1, 2, 3, 4, 5, 6, 7] rfl rfl (q0 := 0) rfl rfl rfl rfl rfl hl.1 rfl (lv_room (Nat.le_of_ble_eq_true rfl)) dX13_undoCount_5 ⟨Nat.zero_le _, Nat.zero_le _⟩) hP hD hS hA [0, 1, 2, 3, 4, 5, 6, 7] [] [0, 1, 2, 3, 4, 5, 6, 7] rfl (wr := []) rfl rfl rfl rfl rfl (fun H locs hP hD hS => ?_)
  have h := Option.some.inj h
  subst h
  exact xIret hx hb hr hlocks hP hK hD hS dX13_undoCount_8
def fX13_undo (N : Nat)  (s0 : MS) : Option (Int32 × MS) :=
  if s0.2.2.2.1 = 0 then
    xcall (fX13_fails N 1 s0) fun q5 =>
    some (q5.1, q5.2)
  else
    xlet (s0.2.2.2.1 - 1) fun x2 =>
    xcall (fX13_copy N 1832 229 (x2 * 229) 0 s0.2.2.1 s0.1) fun q3 =>
    xcall (fX13_done N x2 ((Ms3 (Ms2 (Ms0 s0 q3.2) q3.1) x2))) fun q4 =>
    some (q4.1, q4.2)
set_option maxRecDepth 100000 in
set_option maxHeartbeats 4000000 in
theorem kX13_undo (l : Launch) (D : va_G) (cA : Nat → ClassId) (h0 : Nat → Nat) (sz N : Nat)  (s0 : MS) (q : Int32 × MS) (h : fX13_undo N s0 = some q) : xM l yX13_undo cX13_undo 1 (some .int) ({ frames := 1, cells := 0, slots := 0, locals := 24 }) D cA (MW cA h0 s0) sz [.ref (h0 0)] (some (.int q.1)) (MW cA h0 q.2) := by
  generalize erm : ({ frames := 1, cells := 0, slots := 0, locals := 24 } : Room) = rm
  refine xMet (by decide) (Nat.le_of_ble_eq_true rfl) ?_
  intro p e s m below meth c hx hb hr hlocks hml hts hown hin hK hP A eA hD hS hA hsz ls hl
  have hl : lv_has ls 1 [(0, .ref (h0 0))] := hl
  clear eA
  rw [fX13_undo] at h
  refine lv_aload_n hx hb dX13_undo_0 rfl (lv_at hl 0 rfl) ?_
  refine va_get (D := D) (ci := 12) (v := .int s0.2.2.2.1) (C := RX13) (T := TX13) (N := 16) hx hb hts iX13 hown hK hP 0 rfl rfl 3 (by decide) (hts _ qfl_X13_46) (fun _ h9 => h9) rfl dX13_undo_1 ?_
  refine lv_if_ne (tgt := 13) hx hb dX13_undo_4 (by decide) (fun c1 => ?_) (fun c1 => ?_)
  · have h := x_f h c1
    refine lv_aload_n hx hb dX13_undo_13 rfl (lv_at hl 0 rfl) ?_
    refine lv_dup hx hb dX13_undo_14 rfl ?_
    refine va_get (D := D) (ci := 12) (v := .int s0.2.2.2.1) (C := RX13) (T := TX13) (N := 16) hx hb hts iX13 hown hK hP 0 rfl rfl 3 (by decide) (hts _ qfl_X13_46) (fun _ h9 => h9) rfl dX13_undo_15 ?_
    refine lv_iconst (v := 1) hx hb dX13_undo_18 (by decide) ?_
    refine lv_isub hx hb dX13_undo_19 ?_
    refine lv_topi (fun x2 ex2 => ?_)
    have h := x_let h ex2
    refine va_put (D := D) (ci := 12) (v := .int x2) (ty := .int) (C := RX13) (T := TX13) (N := 16) hx hb hts iX13 tyX13 tyX13_ok nmX13 hown hK hP hD hS 0 rfl rfl 3 (by decide) (hts _ qfl_X13_46) (fun _ h9 => h9) rfl (by decide +kernel) rfl rfl (Nat.le_of_ble_eq_true rfl) dX13_undo_20 (fun H locs hP hD hS => ?_)
    have hP : va_P D vwCl (MW cA h0 ((Ms3 s0 x2))) H := hP
    have hD : va_D A (MW cA h0 ((Ms3 s0 x2))) := hD
    refine lv_aload_n hx hb dX13_undo_23 rfl (lv_at hl 0 rfl) ?_
    refine va_get (D := D) (ci := 12) (v := .ref (h0 3)) (C := RX13) (T := TX13) (N := 16) hx hb hts iX13 hown hK hP 0 rfl rfl 2 (by decide) (hts _ qfl_X13_16) (fun _ h9 => h9) rfl dX13_undo_24 ?_
    refine lv_aload_n hx hb dX13_undo_27 rfl (lv_at hl 0 rfl) ?_
    refine va_get (D := D) (ci := 12) (v := .int x2) (C := RX13) (T := TX13) (N := 16) hx hb hts iX13 hown hK hP 0 rfl rfl 3 (by decide) (hts _ qfl_X13_46) (fun _ h9 => h9) rfl dX13_undo_28 ?_
    refine lv_sipush (v := 229) hx hb dX13_undo_31 (by decide) ?_
    refine lv_imul hx hb dX13_undo_34 ?_
    refine lv_aload_n hx hb dX13_undo_35 rfl (lv_at hl 0 rfl) ?_
    refine va_get (D := D) (ci := 12) (v := .ref (h0 1)) (C := RX13) (T := TX13) (N := 16) hx hb hts iX13 hown hK hP 0 rfl rfl 0 (by decide) (hts _ qfl_X13_7) (fun _ h9 => h9) rfl dX13_undo_36 ?_
    refine lv_iconst (v := 0) hx hb dX13_undo_39 (by decide) ?_
    obtain ⟨q3, c3, h⟩ := x_call h
    refine xCall (w2 := MW cA h0 ((Ms3 (Ms2 (Ms0 s0 q3.2) q3.1) x2))) (xRunS (n := 4) (As := [.ref (h0 3), .int (x2 * 229), .ref (h0 1), .int 0]) (rest := []) ⟨hx, hb, hml, hown, hts⟩ (kX13_copy l D cA (fun k => h0 (k + 3)) (fun k => h0 (k + 1)) _ N 1832 229 (x2 * 229) 0 s0.2.2.1 s0.1 q3 c3) qco_X13_copy qml_X13_42 qst_X13_copy qini_X13 (by decide +kernel) (by rw [← erm]; rfl) hK hP hD [3, 1] rfl rfl rfl rfl hl.1 rfl (lv_room (Nat.le_of_ble_eq_true rfl)) dX13_undo_40 ⟨Nat.zero_le _, Nat.zero_le _⟩) hP hD hS hA [3, 1] [0, 2, 4, 5, 6, 7] [0, 7, 1, 6, 2, 3, 4, 5] rfl (wr := [(h0 0, .inr (12, [.ref (h0 1), .ref (h0 2), .ref (h0 3), .int (x2), .ref (h0 4), .int (s0.2.2.2.2.2.1), .ref (h0 5), .int (s0.2.2.2.2.2.2.2.1), .int (s0.2.2.2.2.2.2.2.2.1), .int (s0.2.2.2.2.2.2.2.2.2.1), .ref (h0 6), .int (s0.2.2.2.2.2.2.2.2.2.2.2.1), .int (s0.2.2.2.2.2.2.2.2.2.2.2.2.1), .int (s0.2.2.2.2.2.2.2.2.2.2.2.2.2.1), .int (s0.2.2.2.2.2.2.2.2.2.2.2.2.2.2.1), .ref (h0 7)])), (h0 2, .inl (cA 0, 229, .inl (s0.2.1))), (h0 4, .inl (cA 0, 229, .inl (s0.2.2.2.2.1))), (h0 5, .inl (cA 1, 60, .inl (s0.2.2.2.2.2.2.1))), (h0 6, .inl (cA 1, 60, .inl (s0.2.2.2.2.2.2.2.2.2.2.1))), (h0 7, .inl (cA 0, 240, .inl (s0.2.2.2.2.2.2.2.2.2.2.2.2.2.2.2)))]) rfl rfl rfl rfl rfl (fun H locs hP hD hS => ?_)
    refine lv_aload_n hx hb dX13_undo_43 rfl (lv_at hl 0 rfl) ?_
    refine lv_aload_n hx hb dX13_undo_44 rfl (lv_at hl 0 rfl) ?_
    refine va_get (D := D) (ci := 12) (v := .int x2) (C := RX13) (T := TX13) (N := 16) hx hb hts iX13 hown hK hP 0 rfl rfl 3 (by decide) (hts _ qfl_X13_46) (fun _ h9 => h9) rfl dX13_undo_45 ?_
    obtain ⟨q4, c4, h⟩ := x_call h
    refine xCall (w2 := MW cA h0 q4.2) (xRunV (n := 1) (As := [.int x2]) (rest := []) ⟨hx, hb, hml, hown, hts⟩ (kX13_done l D cA h0 _ N x2 ((Ms3 (Ms2 (Ms0 s0 q3.2) q3.1) x2)) q4 c4) qco_X13_done qml_X13_60 qin_X13_done qse_X13_done qini_X13 (by decide +kernel) (by rw [← erm]; rfl) hK hP hD [0, 1, 2, 3, 4, 5, 6, 7] rfl rfl (q0 := 0) rfl rfl rfl rfl rfl hl.1 rfl (lv_room (Nat.le_of_ble_eq_true rfl)) dX13_undo_48 ⟨Nat.zero_le _, Nat.zero_le _⟩) hP hD hS hA [0, 1, 2, 3, 4, 5, 6, 7] [] [0, 1, 2, 3, 4, 5, 6, 7] rfl (wr := []) rfl rfl rfl rfl rfl (fun H locs hP hD hS => ?_)
    have h := Option.some.inj h
    subst h
    exact xIret hx hb hr hlocks hP hK hD hS dX13_undo_51
  · have h := x_t h c1
    refine lv_aload_n hx hb dX13_undo_7 rfl (lv_at hl 0 rfl) ?_
    refine lv_iconst (v := 1) hx hb dX13_undo_8 (by decide) ?_
    obtain ⟨q5, c5, h⟩ := x_call h
    refine xCall (w2 := MW cA h0 q5.2) (xRunV (n := 1) (As := [.int 1]) (rest := []) ⟨hx, hb, hml, hown, hts⟩ (kX13_fails l D cA h0 _ N 1 s0 q5 c5) qco_X13_fails qml_X13_57 qin_X13_fails qse_X13_fails qini_X13 (by decide +kernel) (by rw [← erm]; rfl) hK hP hD [0, 1, 2, 3, 4, 5, 6, 7] rfl rfl (q0 := 0) rfl rfl rfl rfl rfl hl.1 rfl (lv_room (Nat.le_of_ble_eq_true rfl)) dX13_undo_9 ⟨Nat.zero_le _, Nat.zero_le _⟩) hP hD hS hA [0, 1, 2, 3, 4, 5, 6, 7] [] [0, 1, 2, 3, 4, 5, 6, 7] rfl (wr := []) rfl rfl rfl rfl rfl (fun H locs hP hD hS => ?_)
    have h := Option.some.inj h
    subst h
    exact xIret hx hb hr hlocks hP hK hD hS dX13_undo_12
def fX13_save (N : Nat)  (s0 : MS) : Option (Int32 × MS) :=
  xcall (fX13_copy N 229 229 0 0 s0.1 s0.2.2.2.2.1) fun q1 =>
  xcall (fX13_done N (q1.1 1) ((Ms5 (Ms4 (Ms0 s0 q1.1) q1.2) 1))) fun q2 =>
  some (q2.1, q2.2)
set_option maxRecDepth 100000 in
set_option maxHeartbeats 4000000 in
theorem kX13_save (l : Launch) (D : va_G) (cA : Nat → ClassId) (h0 : Nat → Nat) (sz N : Nat)  (s0 : MS) (q : Int32 × MS) (h : fX13_save N s0 = some q) : xM l yX13_save cX13_save 1 (some .int) ({ frames := 1, cells := 0, slots := 0, locals := 24 }) D cA (MW cA h0 s0) sz [.ref (h0 0)] (some (.int q.1)) (MW cA h0 q.2) := by
  generalize erm : ({ frames := 1, cells := 0, slots := 0, locals := 24 } : Room) = rm
  refine xMet (by decide) (Nat.le_of_ble_eq_true rfl) ?_
  intro p e s m below meth c hx hb hr hlocks hml hts hown hin hK hP A eA hD hS hA hsz ls hl
  have hl : lv_has ls 1 [(0, .ref (h0 0))] := hl
  clear eA
  rw [fX13_save] at h
  refine lv_aload_n hx hb dX13_save_0 rfl (lv_at hl 0 rfl) ?_
  refine va_get (D := D) (ci := 12) (v := .ref (h0 1)) (C := RX13) (T := TX13) (N := 16) hx hb hts iX13 hown hK hP 0 rfl rfl 0 (by decide) (hts _ qfl_X13_7) (fun _ h9 => h9) rfl dX13_save_1 ?_
  refine lv_iconst (v := 0) hx hb dX13_save_4 (by decide) ?_
  refine lv_aload_n hx hb dX13_save_5 rfl (lv_at hl 0 rfl) ?_
  refine va_get (D := D) (ci := 12) (v := .ref (h0 4)) (C := RX13) (T := TX13) (N := 16) hx hb hts iX13 hown hK hP 0 rfl rfl 4 (by decide) (hts _ qfl_X13_19) (fun _ h9 => h9) rfl dX13_save_6 ?_
  refine lv_iconst (v := 0) hx hb dX13_save_9 (by decide) ?_
  obtain ⟨q1, c1, h⟩ := x_call h
  refine xCall (w2 := MW cA h0 ((Ms4 (Ms0 s0 q1.1) q1.2))) (xRunS (n := 4) (As := [.ref (h0 1), .int 0, .ref (h0 4), .int 0]) (rest := []) ⟨hx, hb, hml, hown, hts⟩ (kX13_copy l D cA (fun k => h0 (k + 1)) (fun k => h0 (k + 4)) _ N 229 229 0 0 s0.1 s0.2.2.2.2.1 q1 c1) qco_X13_copy qml_X13_42 qst_X13_copy qini_X13 (by decide +kernel) (by rw [← erm]; rfl) hK hP hD [1, 4] rfl rfl rfl rfl hl.1 rfl (lv_room (Nat.le_of_ble_eq_true rfl)) dX13_save_10 ⟨Nat.zero_le _, Nat.zero_le _⟩) hP hD hS hA [1, 4] [0, 2, 3, 5, 6, 7] [0, 6, 1, 2, 7, 3, 4, 5] rfl (wr := [(h0 0, .inr (12, [.ref (h0 1), .ref (h0 2), .ref (h0 3), .int (s0.2.2.2.1), .ref (h0 4), .int (s0.2.2.2.2.2.1), .ref (h0 5), .int (s0.2.2.2.2.2.2.2.1), .int (s0.2.2.2.2.2.2.2.2.1), .int (s0.2.2.2.2.2.2.2.2.2.1), .ref (h0 6), .int (s0.2.2.2.2.2.2.2.2.2.2.2.1), .int (s0.2.2.2.2.2.2.2.2.2.2.2.2.1), .int (s0.2.2.2.2.2.2.2.2.2.2.2.2.2.1), .int (s0.2.2.2.2.2.2.2.2.2.2.2.2.2.2.1), .ref (h0 7)])), (h0 2, .inl (cA 0, 229, .inl (s0.2.1))), (h0 3, .inl (cA 0, 1832, .inl (s0.2.2.1))), (h0 5, .inl (cA 1, 60, .inl (s0.2.2.2.2.2.2.1))), (h0 6, .inl (cA 1, 60, .inl (s0.2.2.2.2.2.2.2.2.2.2.1))), (h0 7, .inl (cA 0, 240, .inl (s0.2.2.2.2.2.2.2.2.2.2.2.2.2.2.2)))]) rfl rfl rfl rfl rfl (fun H locs hP hD hS => ?_)
  refine lv_aload_n hx hb dX13_save_13 rfl (lv_at hl 0 rfl) ?_
  refine lv_iconst (v := 1) hx hb dX13_save_14 (by decide) ?_
  refine va_put (D := D) (ci := 12) (v := .int 1) (ty := .boolean) (C := RX13) (T := TX13) (N := 16) hx hb hts iX13 tyX13 tyX13_ok nmX13 hown hK hP hD hS 0 rfl rfl 5 (by decide) (hts _ qfl_X13_250) (fun _ h9 => h9) rfl (by decide +kernel) (by decide) (by decide) (Nat.le_of_ble_eq_true rfl) dX13_save_15 (fun H locs hP hD hS => ?_)
  have hP : va_P D vwCl (MW cA h0 ((Ms5 (Ms4 (Ms0 s0 q1.1) q1.2) 1))) H := hP
  have hD : va_D A (MW cA h0 ((Ms5 (Ms4 (Ms0 s0 q1.1) q1.2) 1))) := hD
  refine lv_aload_n hx hb dX13_save_18 rfl (lv_at hl 0 rfl) ?_
  refine lv_aload_n hx hb dX13_save_19 rfl (lv_at hl 0 rfl) ?_
  refine va_get (D := D) (ci := 12) (v := .ref (h0 1)) (C := RX13) (T := TX13) (N := 16) hx hb hts iX13 hown hK hP 0 rfl rfl 0 (by decide) (hts _ qfl_X13_7) (fun _ h9 => h9) rfl dX13_save_20 ?_
  refine lv_iconst (v := 1) hx hb dX13_save_23 (by decide) ?_
  refine xIald hx hb hK hP 1 0 rfl rfl (x_lit (k := 1) (by decide)) dX13_save_24 ?_
  obtain ⟨q2, c2, h⟩ := x_call h
  refine xCall (w2 := MW cA h0 q2.2) (xRunV (n := 1) (As := [.int (q1.1 1)]) (rest := []) ⟨hx, hb, hml, hown, hts⟩ (kX13_done l D cA h0 _ N (q1.1 1) ((Ms5 (Ms4 (Ms0 s0 q1.1) q1.2) 1)) q2 c2) qco_X13_done qml_X13_60 qin_X13_done qse_X13_done qini_X13 (by decide +kernel) (by rw [← erm]; rfl) hK hP hD [0, 1, 2, 3, 4, 5, 6, 7] rfl rfl (q0 := 0) rfl rfl rfl rfl rfl hl.1 rfl (lv_room (Nat.le_of_ble_eq_true rfl)) dX13_save_25 ⟨Nat.zero_le _, Nat.zero_le _⟩) hP hD hS hA [0, 1, 2, 3, 4, 5, 6, 7] [] [0, 1, 2, 3, 4, 5, 6, 7] rfl (wr := []) rfl rfl rfl rfl rfl (fun H locs hP hD hS => ?_)
  have h := Option.some.inj h
  subst h
  exact xIret hx hb hr hlocks hP hK hD hS dX13_save_28
def fX13_restore (N : Nat)  (s0 : MS) : Option (Int32 × MS) :=
  if s0.2.2.2.2.2.1 = 0 then
    xcall (fX13_fails N 1 s0) fun q4 =>
    some (q4.1, q4.2)
  else
    xcall (fX13_copy N 229 229 0 0 s0.2.2.2.2.1 s0.1) fun q2 =>
    xcall (fX13_done N (q2.2 1) ((Ms4 (Ms3 (Ms0 s0 q2.2) 0) q2.1))) fun q3 =>
    some (q3.1, q3.2)
set_option maxRecDepth 100000 in
set_option maxHeartbeats 4000000 in
theorem kX13_restore (l : Launch) (D : va_G) (cA : Nat → ClassId) (h0 : Nat → Nat) (sz N : Nat)  (s0 : MS) (q : Int32 × MS) (h : fX13_restore N s0 = some q) : xM l yX13_restore cX13_restore 1 (some .int) ({ frames := 1, cells := 0, slots := 0, locals := 24 }) D cA (MW cA h0 s0) sz [.ref (h0 0)] (some (.int q.1)) (MW cA h0 q.2) := by
  generalize erm : ({ frames := 1, cells := 0, slots := 0, locals := 24 } : Room) = rm
  refine xMet (by decide) (Nat.le_of_ble_eq_true rfl) ?_
  intro p e s m below meth c hx hb hr hlocks hml hts hown hin hK hP A eA hD hS hA hsz ls hl
  have hl : lv_has ls 1 [(0, .ref (h0 0))] := hl
  clear eA
  rw [fX13_restore] at h
  refine lv_aload_n hx hb dX13_restore_0 rfl (lv_at hl 0 rfl) ?_
  refine va_get (D := D) (ci := 12) (v := .int s0.2.2.2.2.2.1) (C := RX13) (T := TX13) (N := 16) hx hb hts iX13 hown hK hP 0 rfl rfl 5 (by decide) (hts _ qfl_X13_250) (fun _ h9 => h9) rfl dX13_restore_1 ?_
  refine lv_if_ne (tgt := 13) hx hb dX13_restore_4 (by decide) (fun c1 => ?_) (fun c1 => ?_)
  · have h := x_f h c1
    refine lv_aload_n hx hb dX13_restore_13 rfl (lv_at hl 0 rfl) ?_
    refine va_get (D := D) (ci := 12) (v := .ref (h0 4)) (C := RX13) (T := TX13) (N := 16) hx hb hts iX13 hown hK hP 0 rfl rfl 4 (by decide) (hts _ qfl_X13_19) (fun _ h9 => h9) rfl dX13_restore_14 ?_
    refine lv_iconst (v := 0) hx hb dX13_restore_17 (by decide) ?_
    refine lv_aload_n hx hb dX13_restore_18 rfl (lv_at hl 0 rfl) ?_
    refine va_get (D := D) (ci := 12) (v := .ref (h0 1)) (C := RX13) (T := TX13) (N := 16) hx hb hts iX13 hown hK hP 0 rfl rfl 0 (by decide) (hts _ qfl_X13_7) (fun _ h9 => h9) rfl dX13_restore_19 ?_
    refine lv_iconst (v := 0) hx hb dX13_restore_22 (by decide) ?_
    obtain ⟨q2, c2, h⟩ := x_call h
    refine xCall (w2 := MW cA h0 ((Ms4 (Ms0 s0 q2.2) q2.1))) (xRunS (n := 4) (As := [.ref (h0 4), .int 0, .ref (h0 1), .int 0]) (rest := []) ⟨hx, hb, hml, hown, hts⟩ (kX13_copy l D cA (fun k => h0 (k + 4)) (fun k => h0 (k + 1)) _ N 229 229 0 0 s0.2.2.2.2.1 s0.1 q2 c2) qco_X13_copy qml_X13_42 qst_X13_copy qini_X13 (by decide +kernel) (by rw [← erm]; rfl) hK hP hD [4, 1] rfl rfl rfl rfl hl.1 rfl (lv_room (Nat.le_of_ble_eq_true rfl)) dX13_restore_23 ⟨Nat.zero_le _, Nat.zero_le _⟩) hP hD hS hA [4, 1] [0, 2, 3, 5, 6, 7] [0, 7, 1, 2, 6, 3, 4, 5] rfl (wr := [(h0 0, .inr (12, [.ref (h0 1), .ref (h0 2), .ref (h0 3), .int (s0.2.2.2.1), .ref (h0 4), .int (s0.2.2.2.2.2.1), .ref (h0 5), .int (s0.2.2.2.2.2.2.2.1), .int (s0.2.2.2.2.2.2.2.2.1), .int (s0.2.2.2.2.2.2.2.2.2.1), .ref (h0 6), .int (s0.2.2.2.2.2.2.2.2.2.2.2.1), .int (s0.2.2.2.2.2.2.2.2.2.2.2.2.1), .int (s0.2.2.2.2.2.2.2.2.2.2.2.2.2.1), .int (s0.2.2.2.2.2.2.2.2.2.2.2.2.2.2.1), .ref (h0 7)])), (h0 2, .inl (cA 0, 229, .inl (s0.2.1))), (h0 3, .inl (cA 0, 1832, .inl (s0.2.2.1))), (h0 5, .inl (cA 1, 60, .inl (s0.2.2.2.2.2.2.1))), (h0 6, .inl (cA 1, 60, .inl (s0.2.2.2.2.2.2.2.2.2.2.1))), (h0 7, .inl (cA 0, 240, .inl (s0.2.2.2.2.2.2.2.2.2.2.2.2.2.2.2)))]) rfl rfl rfl rfl rfl (fun H locs hP hD hS => ?_)
    refine lv_aload_n hx hb dX13_restore_26 rfl (lv_at hl 0 rfl) ?_
    refine lv_iconst (v := 0) hx hb dX13_restore_27 (by decide) ?_
    refine va_put (D := D) (ci := 12) (v := .int 0) (ty := .int) (C := RX13) (T := TX13) (N := 16) hx hb hts iX13 tyX13 tyX13_ok nmX13 hown hK hP hD hS 0 rfl rfl 3 (by decide) (hts _ qfl_X13_46) (fun _ h9 => h9) rfl (by decide +kernel) rfl rfl (Nat.le_of_ble_eq_true rfl) dX13_restore_28 (fun H locs hP hD hS => ?_)
    have hP : va_P D vwCl (MW cA h0 ((Ms4 (Ms3 (Ms0 s0 q2.2) 0) q2.1))) H := hP
    have hD : va_D A (MW cA h0 ((Ms4 (Ms3 (Ms0 s0 q2.2) 0) q2.1))) := hD
    refine lv_aload_n hx hb dX13_restore_31 rfl (lv_at hl 0 rfl) ?_
    refine lv_aload_n hx hb dX13_restore_32 rfl (lv_at hl 0 rfl) ?_
    refine va_get (D := D) (ci := 12) (v := .ref (h0 1)) (C := RX13) (T := TX13) (N := 16) hx hb hts iX13 hown hK hP 0 rfl rfl 0 (by decide) (hts _ qfl_X13_7) (fun _ h9 => h9) rfl dX13_restore_33 ?_
    refine lv_iconst (v := 1) hx hb dX13_restore_36 (by decide) ?_
    refine xIald hx hb hK hP 1 0 rfl rfl (x_lit (k := 1) (by decide)) dX13_restore_37 ?_
    obtain ⟨q3, c3, h⟩ := x_call h
    refine xCall (w2 := MW cA h0 q3.2) (xRunV (n := 1) (As := [.int (q2.2 1)]) (rest := []) ⟨hx, hb, hml, hown, hts⟩ (kX13_done l D cA h0 _ N (q2.2 1) ((Ms4 (Ms3 (Ms0 s0 q2.2) 0) q2.1)) q3 c3) qco_X13_done qml_X13_60 qin_X13_done qse_X13_done qini_X13 (by decide +kernel) (by rw [← erm]; rfl) hK hP hD [0, 1, 2, 3, 4, 5, 6, 7] rfl rfl (q0 := 0) rfl rfl rfl rfl rfl hl.1 rfl (lv_room (Nat.le_of_ble_eq_true rfl)) dX13_restore_38 ⟨Nat.zero_le _, Nat.zero_le _⟩) hP hD hS hA [0, 1, 2, 3, 4, 5, 6, 7] [] [0, 1, 2, 3, 4, 5, 6, 7] rfl (wr := []) rfl rfl rfl rfl rfl (fun H locs hP hD hS => ?_)
    have h := Option.some.inj h
    subst h
    exact xIret hx hb hr hlocks hP hK hD hS dX13_restore_41
  · have h := x_t h c1
    refine lv_aload_n hx hb dX13_restore_7 rfl (lv_at hl 0 rfl) ?_
    refine lv_iconst (v := 1) hx hb dX13_restore_8 (by decide) ?_
    obtain ⟨q4, c4, h⟩ := x_call h
    refine xCall (w2 := MW cA h0 q4.2) (xRunV (n := 1) (As := [.int 1]) (rest := []) ⟨hx, hb, hml, hown, hts⟩ (kX13_fails l D cA h0 _ N 1 s0 q4 c4) qco_X13_fails qml_X13_57 qin_X13_fails qse_X13_fails qini_X13 (by decide +kernel) (by rw [← erm]; rfl) hK hP hD [0, 1, 2, 3, 4, 5, 6, 7] rfl rfl (q0 := 0) rfl rfl rfl rfl rfl hl.1 rfl (lv_room (Nat.le_of_ble_eq_true rfl)) dX13_restore_9 ⟨Nat.zero_le _, Nat.zero_le _⟩) hP hD hS hA [0, 1, 2, 3, 4, 5, 6, 7] [] [0, 1, 2, 3, 4, 5, 6, 7] rfl (wr := []) rfl rfl rfl rfl rfl (fun H locs hP hD hS => ?_)
    have h := Option.some.inj h
    subst h
    exact xIret hx hb hr hlocks hP hK hD hS dX13_restore_12
