/-! the reference, method by method: what it computes, and that its bytes compute it -/
def fX13_in (N : Nat) (a0 : Int32) (a1 : Int32) (a2 : Int32)  : Option (Int32) :=
  xjoin (fun (t0_1 : Int32) =>
      xnz (xnar .boolean t0_1) <|
      some t0_1
    ) fun J15 =>
  xjoin (fun (u_3 : Unit) =>
      J15 0
    ) fun J14 =>
  if a0 < a1 then
    J14 ()
  else
    if a2 < a0 then
      J14 ()
    else
      J15 1
set_option maxRecDepth 100000 in
set_option maxHeartbeats 4000000 in
theorem kX13_in (l : Launch) (D : va_G) (cA : Nat → ClassId)  (sz N : Nat) (a0 : Int32) (a1 : Int32) (a2 : Int32)  (q : Int32) (h : fX13_in N a0 a1 a2 = some q) : xM l yX13_in cX13_in 3 (some .boolean) ({ frames := 0, cells := 0, slots := 0, locals := 0 }) D cA (([] : va_W)) sz [.int a0, .int a1, .int a2] (some (.int q)) (([] : va_W)) := by
  generalize erm : ({ frames := 0, cells := 0, slots := 0, locals := 0 } : Room) = rm
  refine xMet (by decide) (Nat.le_of_ble_eq_true rfl) ?_
  intro p e s m below meth c hx hb hr hlocks hml hts hown hin hK hP A eA hD hS hA hsz ls hl
  have hl : lv_has ls 3 [(0, .int a0), (1, .int a1), (2, .int a2)] := hl
  clear eA
  rw [fX13_in] at h
  refine lv_iload_n hx hb dX13_in_0 rfl (lv_at hl 0 rfl) ?_
  refine lv_iload_n hx hb dX13_in_1 rfl (lv_at hl 1 rfl) ?_
  obtain ⟨J15, eJ15, h⟩ := x_join h
  have hJ_J15 : ∀ (t0_1 : Int32) (H : Heap) (locs : List Loc), va_P D vwCl (([] : va_W)) H → va_D A (([] : va_W)) → va_S A s.heap H locs → ∀ ls : Array Slot, lv_has ls 3 [] → J15 t0_1 = some q → W p l e rm s m ([.int a0, .int a1, .int a2] : List Value).toArray below meth c H locs 0 0 (MQ below (xQ D cA A (([] : va_W)) (some (.int q))) ([.int a0, .int a1, .int a2] : List Value).toArray s 0 0 A) (F0 m 15 ls [.int t0_1]) := by
    clear h hP hD hS hl
    intro t0_1 H locs hP hD hS ls hl h
    rw [eJ15] at h
    obtain ⟨z2, h⟩ := x_nz h
    have h := Option.some.inj h
    subst h
    exact xZret hx hb hr hlocks (xnar_n z2) hP hK hD hS dX13_in_15
  obtain ⟨J14, eJ14, h⟩ := x_join h
  have hJ_J14 : ∀ (u_3 : Unit) (H : Heap) (locs : List Loc), va_P D vwCl (([] : va_W)) H → va_D A (([] : va_W)) → va_S A s.heap H locs → ∀ ls : Array Slot, lv_has ls 3 [] → J14 u_3 = some q → W p l e rm s m ([.int a0, .int a1, .int a2] : List Value).toArray below meth c H locs 0 0 (MQ below (xQ D cA A (([] : va_W)) (some (.int q))) ([.int a0, .int a1, .int a2] : List Value).toArray s 0 0 A) (F0 m 14 ls []) := by
    clear h hP hD hS hl
    intro u_3 H locs hP hD hS ls hl h
    rw [eJ14] at h
    refine lv_iconst (v := 0) hx hb dX13_in_14 (by decide) ?_
    exact hJ_J15 0 _ _ hP hD hS _ (lv_sub hl [] rfl) h
  refine lv_icmp_lt (tgt := 14) hx hb dX13_in_2 (by decide) (fun c4 => ?_) (fun c4 => ?_)
  · have h := x_t h c4
    exact hJ_J14 () _ _ hP hD hS _ (lv_sub hl [] rfl) h
  · have h := x_f h c4
    refine lv_iload_n hx hb dX13_in_5 rfl (lv_at hl 0 rfl) ?_
    refine lv_iload_n hx hb dX13_in_6 rfl (lv_at hl 2 rfl) ?_
    refine lv_icmp_gt (tgt := 14) hx hb dX13_in_7 (by decide) (fun c5 => ?_) (fun c5 => ?_)
    · have h := x_t h c5
      exact hJ_J14 () _ _ hP hD hS _ (lv_sub hl [] rfl) h
    · have h := x_f h c5
      refine lv_iconst (v := 1) hx hb dX13_in_10 (by decide) ?_
      refine lv_goto (tgt := 15) hx hb dX13_in_11 (by decide) ?_
      exact hJ_J15 1 _ _ hP hD hS _ (lv_sub hl [] rfl) h
def fX13_done (N : Nat) (a1 : Int32) (s0 : MS) : Option (Int32 × MS) :=
  some (a1, (Ms12 s0 0))
set_option maxRecDepth 100000 in
set_option maxHeartbeats 4000000 in
theorem kX13_done (l : Launch) (D : va_G) (cA : Nat → ClassId) (h0 : Nat → Nat) (sz N : Nat) (a1 : Int32) (s0 : MS) (q : Int32 × MS) (h : fX13_done N a1 s0 = some q) : xM l yX13_done cX13_done 2 (some .int) ({ frames := 0, cells := 0, slots := 0, locals := 0 }) D cA (MW cA h0 s0) sz [.ref (h0 0), .int a1] (some (.int q.1)) (MW cA h0 q.2) := by
  generalize erm : ({ frames := 0, cells := 0, slots := 0, locals := 0 } : Room) = rm
  refine xMet (by decide) (Nat.le_of_ble_eq_true rfl) ?_
  intro p e s m below meth c hx hb hr hlocks hml hts hown hin hK hP A eA hD hS hA hsz ls hl
  have hl : lv_has ls 2 [(0, .ref (h0 0)), (1, .int a1)] := hl
  clear eA
  rw [fX13_done] at h
  refine lv_aload_n hx hb dX13_done_0 rfl (lv_at hl 0 rfl) ?_
  refine lv_iconst (v := 0) hx hb dX13_done_1 (by decide) ?_
  refine va_put (D := D) (ci := 12) (v := .int 0) (ty := .int) (C := RX13) (T := TX13) (N := 16) hx hb hts iX13 tyX13 tyX13_ok nmX13 hown hK hP hD hS 0 rfl rfl 12 (by decide) (hts _ qfl_X13_39) (fun _ h9 => h9) rfl (by decide +kernel) rfl rfl (Nat.le_of_ble_eq_true rfl) dX13_done_2 (fun H locs hP hD hS => ?_)
  have hP : va_P D vwCl (MW cA h0 ((Ms12 s0 0))) H := hP
  have hD : va_D A (MW cA h0 ((Ms12 s0 0))) := hD
  refine lv_iload_n hx hb dX13_done_5 rfl (lv_at hl 1 rfl) ?_
  have h := Option.some.inj h
  subst h
  exact xIret hx hb hr hlocks hP hK hD hS dX13_done_6
def fX13_fails (N : Nat) (a1 : Int32) (s0 : MS) : Option (Int32 × MS) :=
  some (0, (Ms12 s0 a1))
set_option maxRecDepth 100000 in
set_option maxHeartbeats 4000000 in
theorem kX13_fails (l : Launch) (D : va_G) (cA : Nat → ClassId) (h0 : Nat → Nat) (sz N : Nat) (a1 : Int32) (s0 : MS) (q : Int32 × MS) (h : fX13_fails N a1 s0 = some q) : xM l yX13_fails cX13_fails 2 (some .int) ({ frames := 0, cells := 0, slots := 0, locals := 0 }) D cA (MW cA h0 s0) sz [.ref (h0 0), .int a1] (some (.int q.1)) (MW cA h0 q.2) := by
  generalize erm : ({ frames := 0, cells := 0, slots := 0, locals := 0 } : Room) = rm
  refine xMet (by decide) (Nat.le_of_ble_eq_true rfl) ?_
  intro p e s m below meth c hx hb hr hlocks hml hts hown hin hK hP A eA hD hS hA hsz ls hl
  have hl : lv_has ls 2 [(0, .ref (h0 0)), (1, .int a1)] := hl
  clear eA
  rw [fX13_fails] at h
  refine lv_aload_n hx hb dX13_fails_0 rfl (lv_at hl 0 rfl) ?_
  refine lv_iload_n hx hb dX13_fails_1 rfl (lv_at hl 1 rfl) ?_
  refine va_put (D := D) (ci := 12) (v := .int a1) (ty := .int) (C := RX13) (T := TX13) (N := 16) hx hb hts iX13 tyX13 tyX13_ok nmX13 hown hK hP hD hS 0 rfl rfl 12 (by decide) (hts _ qfl_X13_39) (fun _ h9 => h9) rfl (by decide +kernel) rfl rfl (Nat.le_of_ble_eq_true rfl) dX13_fails_2 (fun H locs hP hD hS => ?_)
  have hP : va_P D vwCl (MW cA h0 ((Ms12 s0 a1))) H := hP
  have hD : va_D A (MW cA h0 ((Ms12 s0 a1))) := hD
  refine lv_iconst (v := 0) hx hb dX13_fails_5 (by decide) ?_
  have h := Option.some.inj h
  subst h
  exact xIret hx hb hr hlocks hP hK hD hS dX13_fails_6
def fX13_copy_L3 (N : Nat) (n0 : Nat) (n1 : Nat) (K29 : AS → AS → Option (AS × AS)) : Nat → Int32 → Int32 → Int32 → AS → AS → Option (AS × AS)
  | 0, _, _, _, _, _ => none
  | n + 1, v1_2, v3_2, v4_2, s0_2, s1_2 =>
    if 229 ≤ v4_2 then
      K29 s0_2 s1_2
    else
      xrd n0 (v1_2 + v4_2) fun k4 =>
      xrd n1 (v3_2 + v4_2) fun k5 =>
      xlet (upd s1_2 k5 (s0_2 k4)) fun g6 =>
      xlet (v4_2 + (1)) fun x7 =>
      fX13_copy_L3 N n0 n1 K29 n v1_2 v3_2 x7 s0_2 g6
def fX13_copy (N : Nat) (n0 : Nat) (n1 : Nat) (a1 : Int32) (a3 : Int32) (s0 : AS) (s1 : AS) : Option (AS × AS) :=
  xjoin (fun (s0_1 : AS) (s1_1 : AS) =>
      some (s0_1, s1_1)
    ) fun K29 =>
  fX13_copy_L3 N n0 n1 K29 N a1 a3 0 s0 s1
set_option maxRecDepth 100000 in
set_option maxHeartbeats 4000000 in
theorem kX13_copy (l : Launch) (D : va_G) (cA : Nat → ClassId) (h0 : Nat → Nat) (h1 : Nat → Nat) (sz N : Nat) (n0 : Nat) (n1 : Nat) (a1 : Int32) (a3 : Int32) (s0 : AS) (s1 : AS) (q : AS × AS) (h : fX13_copy N n0 n1 a1 a3 s0 s1 = some q) : xM l yX13_copy cX13_copy 5 none ({ frames := 0, cells := 0, slots := 0, locals := 0 }) D cA (AW n0 cA h0 s0 ++ AW n1 cA h1 s1) sz [.ref (h0 0), .int a1, .ref (h1 0), .int a3] (none) (AW n0 cA h0 q.1 ++ AW n1 cA h1 q.2) := by
  generalize erm : ({ frames := 0, cells := 0, slots := 0, locals := 0 } : Room) = rm
  refine xMet (by decide) (Nat.le_of_ble_eq_true rfl) ?_
  intro p e s m below meth c hx hb hr hlocks hml hts hown hin hK hP A eA hD hS hA hsz ls hl
  have hl : lv_has ls 5 [(0, .ref (h0 0)), (1, .int a1), (2, .ref (h1 0)), (3, .int a3)] := hl
  clear eA
  rw [fX13_copy] at h
  refine lv_iconst (v := 0) hx hb dX13_copy_0 (by decide) ?_
  refine lv_istore (lv' := [(4, .int 0), (0, .ref (h0 0)), (1, .int a1), (2, .ref (h1 0)), (3, .int a3)]) hx hb dX13_copy_1 hl (by decide) rfl (fun ls hl => ?_)
  obtain ⟨K29, eK29, h⟩ := x_join h
  have hJ_K29 : ∀ (s0_1 : AS) (s1_1 : AS) (H : Heap) (locs : List Loc), va_P D vwCl (AW n0 cA h0 s0_1 ++ AW n1 cA h1 s1_1) H → va_D A (AW n0 cA h0 s0_1 ++ AW n1 cA h1 s1_1) → va_S A s.heap H locs → ∀ ls : Array Slot, lv_has ls 5 [] → K29 s0_1 s1_1 = some q → W p l e rm s m ([.ref (h0 0), .int a1, .ref (h1 0), .int a3] : List Value).toArray below meth c H locs 0 0 (MQ below (xQ D cA A (AW n0 cA h0 q.1 ++ AW n1 cA h1 q.2) (none)) ([.ref (h0 0), .int a1, .ref (h1 0), .int a3] : List Value).toArray s 0 0 A) (F0 m 29 ls []) := by
    clear h hP hD hS hl
    intro s0_1 s1_1 H locs hP hD hS ls hl h
    rw [eK29] at h
    have h := Option.some.inj h
    subst h
    exact xVret hx hb hr hlocks hP hK hD hS dX13_copy_29
  have hL3 : ∀ (n : Nat) (v1_2 : Int32) (v3_2 : Int32) (v4_2 : Int32) (s0_2 : AS) (s1_2 : AS) (H : Heap) (locs : List Loc), va_P D vwCl (AW n0 cA h0 s0_2 ++ AW n1 cA h1 s1_2) H → va_D A (AW n0 cA h0 s0_2 ++ AW n1 cA h1 s1_2) → va_S A s.heap H locs → ∀ ls : Array Slot, lv_has ls 5 [(0, .ref (h0 0)), (1, .int v1_2), (2, .ref (h1 0)), (3, .int v3_2), (4, .int v4_2)] → fX13_copy_L3 N n0 n1 K29 n v1_2 v3_2 v4_2 s0_2 s1_2 = some q → W p l e rm s m ([.ref (h0 0), .int a1, .ref (h1 0), .int a3] : List Value).toArray below meth c H locs 0 0 (MQ below (xQ D cA A (AW n0 cA h0 q.1 ++ AW n1 cA h1 q.2) (none)) ([.ref (h0 0), .int a1, .ref (h1 0), .int a3] : List Value).toArray s 0 0 A) (F0 m 3 ls []) := by
    clear h hP hD hS hl
    intro n
    induction n with
    | zero => intro v1_2 v3_2 v4_2 s0_2 s1_2 H locs hP hD hS ls hl h; rw [fX13_copy_L3] at h; cases h
    | succ n ih =>
      intro v1_2 v3_2 v4_2 s0_2 s1_2 H locs hP hD hS ls hl h
      rw [fX13_copy_L3] at h
      refine lv_iload hx hb dX13_copy_3 (lv_at hl 4 rfl) ?_
      refine lv_sipush (v := 229) hx hb dX13_copy_5 (by decide) ?_
      refine lv_icmp_ge (tgt := 29) hx hb dX13_copy_8 (by decide) (fun c3 => ?_) (fun c3 => ?_)
      · have h := x_t h c3
        exact hJ_K29 s0_2 s1_2 _ _ hP hD hS _ (lv_sub hl [] rfl) h
      · have h := x_f h c3
        refine lv_aload_n hx hb dX13_copy_11 rfl (lv_at hl 2 rfl) ?_
        refine lv_iload_n hx hb dX13_copy_12 rfl (lv_at hl 3 rfl) ?_
        refine lv_iload hx hb dX13_copy_13 (lv_at hl 4 rfl) ?_
        refine lv_iadd hx hb dX13_copy_15 ?_
        refine lv_aload_n hx hb dX13_copy_16 rfl (lv_at hl 0 rfl) ?_
        refine lv_iload_n hx hb dX13_copy_17 rfl (lv_at hl 1 rfl) ?_
        refine lv_iload hx hb dX13_copy_18 (lv_at hl 4 rfl) ?_
        refine lv_iadd hx hb dX13_copy_20 ?_
        obtain ⟨k4, hk4, h⟩ := x_rd h
        refine xIald hx hb hK hP 0 0 rfl rfl hk4 dX13_copy_21 ?_
        obtain ⟨k5, hk5, h⟩ := x_rd h
        refine xIast (w2 := fun zz => AW n0 cA h0 s0_2 ++ AW n1 cA h1 zz) hx hb hK hP hD hS 1 0 rfl rfl hk5 (fun _ => rfl) dX13_copy_22 (fun g6 eg6 H locs hP hD hS => ?_)
        have h := x_let h eg6
        have hP : va_P D vwCl (AW n0 cA h0 s0_2 ++ AW n1 cA h1 g6) H := hP
        have hD : va_D A (AW n0 cA h0 s0_2 ++ AW n1 cA h1 g6) := hD
        obtain ⟨x7, ex7⟩ : ∃ y : Int32, y = v4_2 + (1) := ⟨_, rfl⟩
        have h := x_let h ex7
        refine lv_iinc (v := x7) (lv' := [(4, .int x7), (0, .ref (h0 0)), (1, .int v1_2), (2, .ref (h1 0)), (3, .int v3_2)]) hx hb dX13_copy_23 hl (k := 4) rfl (by rw [ex7]; rfl) (by decide) rfl (fun ls hl => ?_)
        refine lv_goto (tgt := 3) hx hb dX13_copy_26 (by decide) ?_
        exact ih v1_2 v3_2 x7 s0_2 g6 _ _ hP hD hS _ (lv_sub hl [1, 2, 3, 4, 0] rfl) h
  exact hL3 N a1 a3 0 s0 s1 _ _ hP hD hS _ (lv_sub hl [1, 2, 3, 4, 0] rfl) h
def fX13_isAccount (N : Nat) (a1 : Int32) (s0 : MS) : Option (Int32) :=
  xcall (fX13_in N a1 0 ((s0.1 1) - 1)) fun q1 =>
  xnz (xnar .boolean q1) <|
  some q1
set_option maxRecDepth 100000 in
set_option maxHeartbeats 4000000 in
theorem kX13_isAccount (l : Launch) (D : va_G) (cA : Nat → ClassId) (h0 : Nat → Nat) (sz N : Nat) (a1 : Int32) (s0 : MS) (q : Int32) (h : fX13_isAccount N a1 s0 = some q) : xM l yX13_isAccount cX13_isAccount 2 (some .boolean) ({ frames := 1, cells := 0, slots := 0, locals := 22 }) D cA (MW cA h0 s0) sz [.ref (h0 0), .int a1] (some (.int q)) (MW cA h0 s0) := by
  generalize erm : ({ frames := 1, cells := 0, slots := 0, locals := 22 } : Room) = rm
  refine xMet (by decide) (Nat.le_of_ble_eq_true rfl) ?_
  intro p e s m below meth c hx hb hr hlocks hml hts hown hin hK hP A eA hD hS hA hsz ls hl
  have hl : lv_has ls 2 [(0, .ref (h0 0)), (1, .int a1)] := hl
  clear eA
  rw [fX13_isAccount] at h
  refine lv_iload_n hx hb dX13_isAccount_0 rfl (lv_at hl 1 rfl) ?_
  refine lv_iconst (v := 0) hx hb dX13_isAccount_1 (by decide) ?_
  refine lv_aload_n hx hb dX13_isAccount_2 rfl (lv_at hl 0 rfl) ?_
  refine va_get (D := D) (ci := 12) (v := .ref (h0 1)) (C := RX13) (T := TX13) (N := 16) hx hb hts iX13 hown hK hP 0 rfl rfl 0 (by decide) (hts _ qfl_X13_7) (fun _ h9 => h9) rfl dX13_isAccount_3 ?_
  refine lv_iconst (v := 1) hx hb dX13_isAccount_6 (by decide) ?_
  refine xIald hx hb hK hP 1 0 rfl rfl (x_lit (k := 1) (by decide)) dX13_isAccount_7 ?_
  refine lv_iconst (v := 1) hx hb dX13_isAccount_8 (by decide) ?_
  refine lv_isub hx hb dX13_isAccount_9 ?_
  obtain ⟨q1, c1, h⟩ := x_call h
  refine xCall (w2 := MW cA h0 s0) (xRunS (n := 3) (As := [.int a1, .int 0, .int ((s0.1 1) - 1)]) (rest := []) ⟨hx, hb, hml, hown, hts⟩ (kX13_in l D cA  _ N a1 0 ((s0.1 1) - 1) q1 c1) qco_X13_in qml_X13_49 qst_X13_in qini_X13 (by decide +kernel) (by rw [← erm]; rfl) hK hP hD [] rfl rfl rfl rfl hl.1 rfl (lv_room (Nat.le_of_ble_eq_true rfl)) dX13_isAccount_10 ⟨Nat.zero_le _, Nat.zero_le _⟩) hP hD hS hA [] [0, 1, 2, 3, 4, 5, 6, 7] [0, 1, 2, 3, 4, 5, 6, 7] rfl (wr := [(h0 0, .inr (12, [.ref (h0 1), .ref (h0 2), .ref (h0 3), .int (s0.2.2.2.1), .ref (h0 4), .int (s0.2.2.2.2.2.1), .ref (h0 5), .int (s0.2.2.2.2.2.2.2.1), .int (s0.2.2.2.2.2.2.2.2.1), .int (s0.2.2.2.2.2.2.2.2.2.1), .ref (h0 6), .int (s0.2.2.2.2.2.2.2.2.2.2.2.1), .int (s0.2.2.2.2.2.2.2.2.2.2.2.2.1), .int (s0.2.2.2.2.2.2.2.2.2.2.2.2.2.1), .int (s0.2.2.2.2.2.2.2.2.2.2.2.2.2.2.1), .ref (h0 7)])), (h0 1, .inl (cA 0, 229, .inl (s0.1))), (h0 2, .inl (cA 0, 229, .inl (s0.2.1))), (h0 3, .inl (cA 0, 1832, .inl (s0.2.2.1))), (h0 4, .inl (cA 0, 229, .inl (s0.2.2.2.2.1))), (h0 5, .inl (cA 1, 60, .inl (s0.2.2.2.2.2.2.1))), (h0 6, .inl (cA 1, 60, .inl (s0.2.2.2.2.2.2.2.2.2.2.1))), (h0 7, .inl (cA 0, 240, .inl (s0.2.2.2.2.2.2.2.2.2.2.2.2.2.2.2)))]) rfl rfl rfl rfl rfl (fun H locs hP hD hS => ?_)
  obtain ⟨z2, h⟩ := x_nz h
  have h := Option.some.inj h
  subst h
  exact xZret hx hb hr hlocks (xnar_n z2) hP hK hD hS dX13_isAccount_13
def fX13_balanceOf (N : Nat) (a1 : Int32) (s0 : MS) : Option (Int32) :=
  xrd 229 (33 + a1) fun k1 =>
  xrd 229 (45 + a1) fun k2 =>
  xlet ((s0.1 k1) - (s0.1 k2)) fun x3 =>
  xrd 229 (9 + a1) fun k4 =>
  xjoin (fun (t0_5 : Int32) =>
      some t0_5
    ) fun J54 =>
  xjoin (fun (v2_6 : Int32) =>
      J54 v2_6
    ) fun J48 =>
  if (s0.1 k4) = 97 then
    J48 x3
  else
    xrd 229 (9 + a1) fun k8 =>
    if (s0.1 k8) = 101 then
      J48 x3
    else
      J54 (-x3)
set_option maxRecDepth 100000 in
set_option maxHeartbeats 4000000 in
theorem kX13_balanceOf (l : Launch) (D : va_G) (cA : Nat → ClassId) (h0 : Nat → Nat) (sz N : Nat) (a1 : Int32) (s0 : MS) (q : Int32) (h : fX13_balanceOf N a1 s0 = some q) : xM l yX13_balanceOf cX13_balanceOf 3 (some .int) ({ frames := 0, cells := 0, slots := 0, locals := 0 }) D cA (MW cA h0 s0) sz [.ref (h0 0), .int a1] (some (.int q)) (MW cA h0 s0) := by
  generalize erm : ({ frames := 0, cells := 0, slots := 0, locals := 0 } : Room) = rm
  refine xMet (by decide) (Nat.le_of_ble_eq_true rfl) ?_
  intro p e s m below meth c hx hb hr hlocks hml hts hown hin hK hP A eA hD hS hA hsz ls hl
  have hl : lv_has ls 3 [(0, .ref (h0 0)), (1, .int a1)] := hl
  clear eA
  rw [fX13_balanceOf] at h
  refine lv_aload_n hx hb dX13_balanceOf_0 rfl (lv_at hl 0 rfl) ?_
  refine va_get (D := D) (ci := 12) (v := .ref (h0 1)) (C := RX13) (T := TX13) (N := 16) hx hb hts iX13 hown hK hP 0 rfl rfl 0 (by decide) (hts _ qfl_X13_7) (fun _ h9 => h9) rfl dX13_balanceOf_1 ?_
  refine lv_bipush (v := 33) hx hb dX13_balanceOf_4 (by decide) ?_
  refine lv_iload_n hx hb dX13_balanceOf_6 rfl (lv_at hl 1 rfl) ?_
  refine lv_iadd hx hb dX13_balanceOf_7 ?_
  obtain ⟨k1, hk1, h⟩ := x_rd h
  refine xIald hx hb hK hP 1 0 rfl rfl hk1 dX13_balanceOf_8 ?_
  refine lv_aload_n hx hb dX13_balanceOf_9 rfl (lv_at hl 0 rfl) ?_
  refine va_get (D := D) (ci := 12) (v := .ref (h0 1)) (C := RX13) (T := TX13) (N := 16) hx hb hts iX13 hown hK hP 0 rfl rfl 0 (by decide) (hts _ qfl_X13_7) (fun _ h9 => h9) rfl dX13_balanceOf_10 ?_
  refine lv_bipush (v := 45) hx hb dX13_balanceOf_13 (by decide) ?_
  refine lv_iload_n hx hb dX13_balanceOf_15 rfl (lv_at hl 1 rfl) ?_
  refine lv_iadd hx hb dX13_balanceOf_16 ?_
  obtain ⟨k2, hk2, h⟩ := x_rd h
  refine xIald hx hb hK hP 1 0 rfl rfl hk2 dX13_balanceOf_17 ?_
  refine lv_isub hx hb dX13_balanceOf_18 ?_
  refine lv_topi (fun x3 ex3 => ?_)
  have h := x_let h ex3
  refine lv_istore_n (lv' := [(2, .int x3), (0, .ref (h0 0)), (1, .int a1)]) hx hb dX13_balanceOf_19 rfl hl (by decide) rfl (fun ls hl => ?_)
  refine lv_aload_n hx hb dX13_balanceOf_20 rfl (lv_at hl 1 rfl) ?_
  refine va_get (D := D) (ci := 12) (v := .ref (h0 1)) (C := RX13) (T := TX13) (N := 16) hx hb hts iX13 hown hK hP 0 rfl rfl 0 (by decide) (hts _ qfl_X13_7) (fun _ h9 => h9) rfl dX13_balanceOf_21 ?_
  refine lv_bipush (v := 9) hx hb dX13_balanceOf_24 (by decide) ?_
  refine lv_iload_n hx hb dX13_balanceOf_26 rfl (lv_at hl 2 rfl) ?_
  refine lv_iadd hx hb dX13_balanceOf_27 ?_
  obtain ⟨k4, hk4, h⟩ := x_rd h
  refine xIald hx hb hK hP 1 0 rfl rfl hk4 dX13_balanceOf_28 ?_
  refine lv_bipush (v := 97) hx hb dX13_balanceOf_29 (by decide) ?_
  obtain ⟨J54, eJ54, h⟩ := x_join h
  have hJ_J54 : ∀ (t0_5 : Int32) (H : Heap) (locs : List Loc), va_P D vwCl (MW cA h0 s0) H → va_D A (MW cA h0 s0) → va_S A s.heap H locs → ∀ ls : Array Slot, lv_has ls 3 [] → J54 t0_5 = some q → W p l e rm s m ([.ref (h0 0), .int a1] : List Value).toArray below meth c H locs 0 0 (MQ below (xQ D cA A (MW cA h0 s0) (some (.int q))) ([.ref (h0 0), .int a1] : List Value).toArray s 0 0 A) (F0 m 54 ls [.int t0_5]) := by
    clear h hP hD hS hl
    intro t0_5 H locs hP hD hS ls hl h
    rw [eJ54] at h
    have h := Option.some.inj h
    subst h
    exact xIret hx hb hr hlocks hP hK hD hS dX13_balanceOf_54
  obtain ⟨J48, eJ48, h⟩ := x_join h
  have hJ_J48 : ∀ (v2_6 : Int32) (H : Heap) (locs : List Loc), va_P D vwCl (MW cA h0 s0) H → va_D A (MW cA h0 s0) → va_S A s.heap H locs → ∀ ls : Array Slot, lv_has ls 3 [(2, .int v2_6)] → J48 v2_6 = some q → W p l e rm s m ([.ref (h0 0), .int a1] : List Value).toArray below meth c H locs 0 0 (MQ below (xQ D cA A (MW cA h0 s0) (some (.int q))) ([.ref (h0 0), .int a1] : List Value).toArray s 0 0 A) (F0 m 48 ls []) := by
    clear h hP hD hS hl
    intro v2_6 H locs hP hD hS ls hl h
    rw [eJ48] at h
    refine lv_iload_n hx hb dX13_balanceOf_48 rfl (lv_at hl 0 rfl) ?_
    refine lv_goto (tgt := 54) hx hb dX13_balanceOf_49 (by decide) ?_
    exact hJ_J54 v2_6 _ _ hP hD hS _ (lv_sub hl [] rfl) h
  refine lv_icmp_eq (tgt := 48) hx hb dX13_balanceOf_31 (by decide) (fun c7 => ?_) (fun c7 => ?_)
  · have h := x_t h c7
    exact hJ_J48 x3 _ _ hP hD hS _ (lv_sub hl [0] rfl) h
  · have h := x_f h c7
    refine lv_aload_n hx hb dX13_balanceOf_34 rfl (lv_at hl 1 rfl) ?_
    refine va_get (D := D) (ci := 12) (v := .ref (h0 1)) (C := RX13) (T := TX13) (N := 16) hx hb hts iX13 hown hK hP 0 rfl rfl 0 (by decide) (hts _ qfl_X13_7) (fun _ h9 => h9) rfl dX13_balanceOf_35 ?_
    refine lv_bipush (v := 9) hx hb dX13_balanceOf_38 (by decide) ?_
    refine lv_iload_n hx hb dX13_balanceOf_40 rfl (lv_at hl 2 rfl) ?_
    refine lv_iadd hx hb dX13_balanceOf_41 ?_
    obtain ⟨k8, hk8, h⟩ := x_rd h
    refine xIald hx hb hK hP 1 0 rfl rfl hk8 dX13_balanceOf_42 ?_
    refine lv_bipush (v := 101) hx hb dX13_balanceOf_43 (by decide) ?_
    refine lv_icmp_ne (tgt := 52) hx hb dX13_balanceOf_45 (by decide) (fun c9 => ?_) (fun c9 => ?_)
    · have h := x_f h c9
      refine lv_iload_n hx hb dX13_balanceOf_52 rfl (lv_at hl 0 rfl) ?_
      refine lv_ineg hx hb dX13_balanceOf_53 ?_
      exact hJ_J54 (-x3) _ _ hP hD hS _ (lv_sub hl [] rfl) h
    · have h := x_t h c9
      exact hJ_J48 x3 _ _ hP hD hS _ (lv_sub hl [0] rfl) h
