/-! the reference, method by method: what it computes, and that its bytes compute it -/
def fX13_thrown (N : Nat)  (s0 : MS) : Option (Int32) :=
  some s0.2.2.2.2.2.2.2.2.2.2.2.2.1
set_option maxRecDepth 100000 in
set_option maxHeartbeats 4000000 in
theorem kX13_thrown (l : Launch) (D : va_G) (cA : Nat → ClassId) (h0 : Nat → Nat) (sz N : Nat)  (s0 : MS) (q : Int32) (h : fX13_thrown N s0 = some q) : xM l yX13_thrown cX13_thrown 1 (some .int) ({ frames := 0, cells := 0, slots := 0, locals := 0 }) D cA (MW cA h0 s0) sz [.ref (h0 0)] (some (.int q)) (MW cA h0 s0) := by
  generalize erm : ({ frames := 0, cells := 0, slots := 0, locals := 0 } : Room) = rm
  refine xMet (by decide) (Nat.le_of_ble_eq_true rfl) ?_
  intro p e s m below meth c hx hb hr hlocks hml hts hown hin hK hP A eA hD hS hA hsz ls hl
  have hl : lv_has ls 1 [(0, .ref (h0 0))] := hl
  clear eA
  rw [fX13_thrown] at h
  refine lv_aload_n hx hb dX13_thrown_0 rfl (lv_at hl 0 rfl) ?_
  refine va_get (D := D) (ci := 12) (v := .int s0.2.2.2.2.2.2.2.2.2.2.2.2.1) (C := RX13) (T := TX13) (N := 16) hx hb hts iX13 hown hK hP 0 rfl rfl 12 (by decide) (hts _ qfl_X13_39) (fun _ h9 => h9) rfl dX13_thrown_1 ?_
  have h := Option.some.inj h
  subst h
  exact xIret hx hb hr hlocks hP hK hD hS dX13_thrown_4
def fX13_in (N : Nat) (a0 : Int32) (a1 : Int32) (a2 : Int32)  : Option (Int32) :=
  xjoin (fun (t0_1 : Int32) =>
      xnz (xnar .boolean t0_1) <|
      some t0_1
    ) fun J15 =>
  xjoin (fun (u_3 : Unit) =>
      J15 0
    ) fun J14 =>
  if a0 < a1 then
    J14 ()
  else
    if a2 < a0 then
      J14 ()
    else
      J15 1
set_option maxRecDepth 100000 in
set_option maxHeartbeats 4000000 in
theorem kX13_in (l : Launch) (D : va_G) (cA : Nat → ClassId)  (sz N : Nat) (a0 : Int32) (a1 : Int32) (a2 : Int32)  (q : Int32) (h : fX13_in N a0 a1 a2 = some q) : xM l yX13_in cX13_in 3 (some .boolean) ({ frames := 0, cells := 0, slots := 0, locals := 0 }) D cA (([] : va_W)) sz [.int a0, .int a1, .int a2] (some (.int q)) (([] : va_W)) := by
  generalize erm : ({ frames := 0, cells := 0, slots := 0, locals := 0 } : Room) = rm
  refine xMet (by decide) (Nat.le_of_ble_eq_true rfl) ?_
  intro p e s m below meth c hx hb hr hlocks hml hts hown hin hK hP A eA hD hS hA hsz ls hl
  have hl : lv_has ls 3 [(0, .int a0), (1, .int a1), (2, .int a2)] := hl
  clear eA
  rw [fX13_in] at h
  refine lv_iload_n hx hb dX13_in_0 rfl (lv_at hl 0 rfl) ?_
  refine lv_iload_n hx hb dX13_in_1 rfl (lv_at hl 1 rfl) ?_
  obtain ⟨J15, eJ15, h⟩ := x_join h
  have hJ_J15 : ∀ (t0_1 : Int32) (H : Heap) (locs : List Loc), va_P D vwCl (([] : va_W)) H → va_D A (([] : va_W)) → va_S A s.heap H locs → ∀ ls : Array Slot, lv_has ls 3 [] → J15 t0_1 = some q → W p l e rm s m ([.int a0, .int a1, .int a2] : List Value).toArray below meth c H locs 0 0 (MQ below (xQ D cA A (([] : va_W)) (some (.int q))) ([.int a0, .int a1, .int a2] : List Value).toArray s 0 0 A) (F0 m 15 ls [.int t0_1]) := by
    clear h hP hD hS hl
    intro t0_1 H locs hP hD hS ls hl h
    rw [eJ15] at h
    obtain ⟨z2, h⟩ := x_nz h
    have h := Option.some.inj h
    subst h
    exact xZret hx hb hr hlocks (xnar_n z2) hP hK hD hS dX13_in_15
  obtain ⟨J14, eJ14, h⟩ := x_join h
  have hJ_J14 : ∀ (u_3 : Unit) (H : Heap) (locs : List Loc), va_P D vwCl (([] : va_W)) H → va_D A (([] : va_W)) → va_S A s.heap H locs → ∀ ls : Array Slot, lv_has ls 3 [] → J14 u_3 = some q → W p l e rm s m ([.int a0, .int a1, .int a2] : List Value).toArray below meth c H locs 0 0 (MQ below (xQ D cA A (([] : va_W)) (some (.int q))) ([.int a0, .int a1, .int a2] : List Value).toArray s 0 0 A) (F0 m 14 ls []) := by
    clear h hP hD hS hl
    intro u_3 H locs hP hD hS ls hl h
    rw [eJ14] at h
    refine lv_iconst (v := 0) hx hb dX13_in_14 (by decide) ?_
    exact hJ_J15 0 _ _ hP hD hS _ (lv_sub hl [] rfl) h
  refine lv_icmp_lt (tgt := 14) hx hb dX13_in_2 (by decide) (fun c4 => ?_) (fun c4 => ?_)
  · have h := x_t h c4
    exact hJ_J14 () _ _ hP hD hS _ (lv_sub hl [] rfl) h
  · have h := x_f h c4
    refine lv_iload_n hx hb dX13_in_5 rfl (lv_at hl 0 rfl) ?_
    refine lv_iload_n hx hb dX13_in_6 rfl (lv_at hl 2 rfl) ?_
    refine lv_icmp_gt (tgt := 14) hx hb dX13_in_7 (by decide) (fun c5 => ?_) (fun c5 => ?_)
    · have h := x_t h c5
      exact hJ_J14 () _ _ hP hD hS _ (lv_sub hl [] rfl) h
    · have h := x_f h c5
      refine lv_iconst (v := 1) hx hb dX13_in_10 (by decide) ?_
      refine lv_goto (tgt := 15) hx hb dX13_in_11 (by decide) ?_
      exact hJ_J15 1 _ _ hP hD hS _ (lv_sub hl [] rfl) h
def fX13_done (N : Nat) (a1 : Int32) (s0 : MS) : Option (Int32 × MS) :=
  some (a1, (Ms12 s0 0))
set_option maxRecDepth 100000 in
set_option maxHeartbeats 4000000 in
theorem kX13_done (l : Launch) (D : va_G) (cA : Nat → ClassId) (h0 : Nat → Nat) (sz N : Nat) (a1 : Int32) (s0 : MS) (q : Int32 × MS) (h : fX13_done N a1 s0 = some q) : xM l yX13_done cX13_done 2 (some .int) ({ frames := 0, cells := 0, slots := 0, locals := 0 }) D cA (MW cA h0 s0) sz [.ref (h0 0), .int a1] (some (.int q.1)) (MW cA h0 q.2) := by
  generalize erm : ({ frames := 0, cells := 0, slots := 0, locals := 0 } : Room) = rm
  refine xMet (by decide) (Nat.le_of_ble_eq_true rfl) ?_
  intro p e s m below meth c hx hb hr hlocks hml hts hown hin hK hP A eA hD hS hA hsz ls hl
  have hl : lv_has ls 2 [(0, .ref (h0 0)), (1, .int a1)] := hl
  clear eA
  rw [fX13_done] at h
  refine lv_aload_n hx hb dX13_done_0 rfl (lv_at hl 0 rfl) ?_
  refine lv_iconst (v := 0) hx hb dX13_done_1 (by decide) ?_
  refine va_put (D := D) (ci := 12) (v := .int 0) (ty := .int) (C := RX13) (T := TX13) (N := 16) hx hb hts iX13 tyX13 tyX13_ok nmX13 hown hK hP hD hS 0 rfl rfl 12 (by decide) (hts _ qfl_X13_39) (fun _ h9 => h9) rfl (by decide +kernel) rfl rfl (Nat.le_of_ble_eq_true rfl) dX13_done_2 (fun H locs hP hD hS => ?_)
  have hP : va_P D vwCl (MW cA h0 ((Ms12 s0 0))) H := hP
  have hD : va_D A (MW cA h0 ((Ms12 s0 0))) := hD
  refine lv_iload_n hx hb dX13_done_5 rfl (lv_at hl 1 rfl) ?_
  have h := Option.some.inj h
  subst h
  exact xIret hx hb hr hlocks hP hK hD hS dX13_done_6
def fX13_fails (N : Nat) (a1 : Int32) (s0 : MS) : Option (Int32 × MS) :=
  some (0, (Ms12 s0 a1))
set_option maxRecDepth 100000 in
set_option maxHeartbeats 4000000 in
theorem kX13_fails (l : Launch) (D : va_G) (cA : Nat → ClassId) (h0 : Nat → Nat) (sz N : Nat) (a1 : Int32) (s0 : MS) (q : Int32 × MS) (h : fX13_fails N a1 s0 = some q) : xM l yX13_fails cX13_fails 2 (some .int) ({ frames := 0, cells := 0, slots := 0, locals := 0 }) D cA (MW cA h0 s0) sz [.ref (h0 0), .int a1] (some (.int q.1)) (MW cA h0 q.2) := by
  generalize erm : ({ frames := 0, cells := 0, slots := 0, locals := 0 } : Room) = rm
  refine xMet (by decide) (Nat.le_of_ble_eq_true rfl) ?_
  intro p e s m below meth c hx hb hr hlocks hml hts hown hin hK hP A eA hD hS hA hsz ls hl
  have hl : lv_has ls 2 [(0, .ref (h0 0)), (1, .int a1)] := hl
  clear eA
  rw [fX13_fails] at h
  refine lv_aload_n hx hb dX13_fails_0 rfl (lv_at hl 0 rfl) ?_
  refine lv_iload_n hx hb dX13_fails_1 rfl (lv_at hl 1 rfl) ?_
  refine va_put (D := D) (ci := 12) (v := .int a1) (ty := .int) (C := RX13) (T := TX13) (N := 16) hx hb hts iX13 tyX13 tyX13_ok nmX13 hown hK hP hD hS 0 rfl rfl 12 (by decide) (hts _ qfl_X13_39) (fun _ h9 => h9) rfl (by decide +kernel) rfl rfl (Nat.le_of_ble_eq_true rfl) dX13_fails_2 (fun H locs hP hD hS => ?_)
  have hP : va_P D vwCl (MW cA h0 ((Ms12 s0 a1))) H := hP
  have hD : va_D A (MW cA h0 ((Ms12 s0 a1))) := hD
  refine lv_iconst (v := 0) hx hb dX13_fails_5 (by decide) ?_
  have h := Option.some.inj h
  subst h
  exact xIret hx hb hr hlocks hP hK hD hS dX13_fails_6
def fX13_copy_L3 (N : Nat) (n0 : Nat) (n1 : Nat) (K29 : AS → AS → Option (AS × AS)) : Nat → Int32 → Int32 → Int32 → AS → AS → Option (AS × AS)
  | 0, _, _, _, _, _ => none
  | n + 1, v1_2, v3_2, v4_2, s0_2, s1_2 =>
    if 229 ≤ v4_2 then
      K29 s0_2 s1_2
    else
      xrd n0 (v1_2 + v4_2) fun k4 =>
      xrd n1 (v3_2 + v4_2) fun k5 =>
      xlet (upd s1_2 k5 (s0_2 k4)) fun g6 =>
      xlet (v4_2 + (1)) fun x7 =>
      fX13_copy_L3 N n0 n1 K29 n v1_2 v3_2 x7 s0_2 g6
def fX13_copy (N : Nat) (n0 : Nat) (n1 : Nat) (a1 : Int32) (a3 : Int32) (s0 : AS) (s1 : AS) : Option (AS × AS) :=
  xjoin (fun (s0_1 : AS) (s1_1 : AS) =>
      some (s0_1, s1_1)
    ) fun K29 =>
  fX13_copy_L3 N n0 n1 K29 N a1 a3 0 s0 s1
set_option maxRecDepth 100000 in
set_option maxHeartbeats 4000000 in
theorem kX13_copy (l : Launch) (D : va_G) (cA : Nat → ClassId) (h0 : Nat → Nat) (h1 : Nat → Nat) (sz N : Nat) (n0 : Nat) (n1 : Nat) (a1 : Int32) (a3 : Int32) (s0 : AS) (s1 : AS) (q : AS × AS) (h : fX13_copy N n0 n1 a1 a3 s0 s1 = some q) : xM l yX13_copy cX13_copy 5 none ({ frames := 0, cells := 0, slots := 0, locals := 0 }) D cA (AW n0 cA h0 s0 ++ AW n1 cA h1 s1) sz [.ref (h0 0), .int a1, .ref (h1 0), .int a3] (none) (AW n0 cA h0 q.1 ++ AW n1 cA h1 q.2) := by
  generalize erm : ({ frames := 0, cells := 0, slots := 0, locals := 0 } : Room) = rm
  refine xMet (by decide) (Nat.le_of_ble_eq_true rfl) ?_
  intro p e s m below meth c hx hb hr hlocks hml hts hown hin hK hP A eA hD hS hA hsz ls hl
  have hl : lv_has ls 5 [(0, .ref (h0 0)), (1, .int a1), (2, .ref (h1 0)), (3, .int a3)] := hl
  clear eA
  rw [fX13_copy] at h
  refine lv_iconst (v := 0) hx hb dX13_copy_0 (by decide) ?_
  refine lv_istore (lv' := [(4, .int 0), (0, .ref (h0 0)), (1, .int a1), (2, .ref (h1 0)), (3, .int a3)]) hx hb dX13_copy_1 hl (by decide) rfl (fun ls hl => ?_)
  obtain ⟨K29, eK29, h⟩ := x_join h
  have hJ_K29 : ∀ (s0_1 : AS) (s1_1 : AS) (H : Heap) (locs : List Loc), va_P D vwCl (AW n0 cA h0 s0_1 ++ AW n1 cA h1 s1_1) H → va_D A (AW n0 cA h0 s0_1 ++ AW n1 cA h1 s1_1) → va_S A s.heap H locs → ∀ ls : Array Slot, lv_has ls 5 [] → K29 s0_1 s1_1 = some q → W p l e rm s m ([.ref (h0 0), .int a1, .ref (h1 0), .int a3] : List Value).toArray below meth c H locs 0 0 (MQ below (xQ D cA A (AW n0 cA h0 q.1 ++ AW n1 cA h1 q.2) (none)) ([.ref (h0 0), .int a1, .ref (h1 0), .int a3] : List Value).toArray s 0 0 A) (F0 m 29 ls []) := by
    clear h hP hD hS hl
    intro s0_1 s1_1 H locs hP hD hS ls hl h
    rw [eK29] at h
    have h := Option.some.inj h
    subst h
    exact xVret hx hb hr hlocks hP hK hD hS dX13_copy_29
  have hL3 : ∀ (n : Nat) (v1_2 : Int32) (v3_2 : Int32) (v4_2 : Int32) (s0_2 : AS) (s1_2 : AS) (H : Heap) (locs : List Loc), va_P D vwCl (AW n0 cA h0 s0_2 ++ AW n1 cA h1 s1_2) H → va_D A (AW n0 cA h0 s0_2 ++ AW n1 cA h1 s1_2) → va_S A s.heap H locs → ∀ ls : Array Slot, lv_has ls 5 [(0, .ref (h0 0)), (1, .int v1_2), (2, .ref (h1 0)), (3, .int v3_2), (4, .int v4_2)] → fX13_copy_L3 N n0 n1 K29 n v1_2 v3_2 v4_2 s0_2 s1_2 = some q → W p l e rm s m ([.ref (h0 0), .int a1, .ref (h1 0), .int a3] : List Value).toArray below meth c H locs 0 0 (MQ below (xQ D cA A (AW n0 cA h0 q.1 ++ AW n1 cA h1 q.2) (none)) ([.ref (h0 0), .int a1, .ref (h1 0), .int a3] : List Value).toArray s 0 0 A) (F0 m 3 ls []) := by
    clear h hP hD hS hl
    intro n
    induction n with
    | zero => intro v1_2 v3_2 v4_2 s0_2 s1_2 H locs hP hD hS ls hl h; rw [fX13_copy_L3] at h; cases h
    | succ n ih =>
      intro v1_2 v3_2 v4_2 s0_2 s1_2 H locs hP hD hS ls hl h
      rw [fX13_copy_L3] at h
      refine lv_iload hx hb dX13_copy_3 (lv_at hl 4 rfl) ?_
      refine lv_sipush (v := 229) hx hb dX13_copy_5 (by decide) ?_
      refine lv_icmp_ge (tgt := 29) hx hb dX13_copy_8 (by decide) (fun c3 => ?_) (fun c3 => ?_)
      · have h := x_t h c3
        exact hJ_K29 s0_2 s1_2 _ _ hP hD hS _ (lv_sub hl [] rfl) h
      · have h := x_f h c3
        refine lv_aload_n hx hb dX13_copy_11 rfl (lv_at hl 2 rfl) ?_
        refine lv_iload_n hx hb dX13_copy_12 rfl (lv_at hl 3 rfl) ?_
        refine lv_iload hx hb dX13_copy_13 (lv_at hl 4 rfl) ?_
        refine lv_iadd hx hb dX13_copy_15 ?_
        refine lv_aload_n hx hb dX13_copy_16 rfl (lv_at hl 0 rfl) ?_
        refine lv_iload_n hx hb dX13_copy_17 rfl (lv_at hl 1 rfl) ?_
        refine lv_iload hx hb dX13_copy_18 (lv_at hl 4 rfl) ?_
        refine lv_iadd hx hb dX13_copy_20 ?_
        obtain ⟨k4, hk4, h⟩ := x_rd h
        refine xIald hx hb hK hP 0 0 rfl rfl hk4 dX13_copy_21 ?_
        obtain ⟨k5, hk5, h⟩ := x_rd h
        refine xIast (w2 := fun zz => AW n0 cA h0 s0_2 ++ AW n1 cA h1 zz) hx hb hK hP hD hS 1 0 rfl rfl hk5 (fun _ => rfl) dX13_copy_22 (fun g6 eg6 H locs hP hD hS => ?_)
        have h := x_let h eg6
        have hP : va_P D vwCl (AW n0 cA h0 s0_2 ++ AW n1 cA h1 g6) H := hP
        have hD : va_D A (AW n0 cA h0 s0_2 ++ AW n1 cA h1 g6) := hD
        obtain ⟨x7, ex7⟩ : ∃ y : Int32, y = v4_2 + (1) := ⟨_, rfl⟩
        have h := x_let h ex7
        refine lv_iinc (v := x7) (lv' := [(4, .int x7), (0, .ref (h0 0)), (1, .int v1_2), (2, .ref (h1 0)), (3, .int v3_2)]) hx hb dX13_copy_23 hl (k := 4) rfl (by rw [ex7]; rfl) (by decide) rfl (fun ls hl => ?_)
        refine lv_goto (tgt := 3) hx hb dX13_copy_26 (by decide) ?_
        exact ih v1_2 v3_2 x7 s0_2 g6 _ _ hP hD hS _ (lv_sub hl [1, 2, 3, 4, 0] rfl) h
  exact hL3 N a1 a3 0 s0 s1 _ _ hP hD hS _ (lv_sub hl [1, 2, 3, 4, 0] rfl) h
def fX13_begin (N : Nat)  (s0 : MS) : Option (MS) :=
  xcall (fX13_copy N 229 229 0 0 s0.1 s0.2.1) fun q1 =>
  some ((Ms1 (Ms0 s0 q1.1) q1.2))
set_option maxRecDepth 100000 in
set_option maxHeartbeats 4000000 in
theorem kX13_begin (l : Launch) (D : va_G) (cA : Nat → ClassId) (h0 : Nat → Nat) (sz N : Nat)  (s0 : MS) (q : MS) (h : fX13_begin N s0 = some q) : xM l yX13_begin cX13_begin 1 none ({ frames := 1, cells := 0, slots := 0, locals := 24 }) D cA (MW cA h0 s0) sz [.ref (h0 0)] (none) (MW cA h0 q) := by
  generalize erm : ({ frames := 1, cells := 0, slots := 0, locals := 24 } : Room) = rm
  refine xMet (by decide) (Nat.le_of_ble_eq_true rfl) ?_
  intro p e s m below meth c hx hb hr hlocks hml hts hown hin hK hP A eA hD hS hA hsz ls hl
  have hl : lv_has ls 1 [(0, .ref (h0 0))] := hl
  clear eA
  rw [fX13_begin] at h
  refine lv_aload_n hx hb dX13_begin_0 rfl (lv_at hl 0 rfl) ?_
  refine va_get (D := D) (ci := 12) (v := .ref (h0 1)) (C := RX13) (T := TX13) (N := 16) hx hb hts iX13 hown hK hP 0 rfl rfl 0 (by decide) (hts _ qfl_X13_7) (fun _ h9 => h9) rfl dX13_begin_1 ?_
  refine lv_iconst (v := 0) hx hb dX13_begin_4 (by decide) ?_
  refine lv_aload_n hx hb dX13_begin_5 rfl (lv_at hl 0 rfl) ?_
  refine va_get (D := D) (ci := 12) (v := .ref (h0 2)) (C := RX13) (T := TX13) (N := 16) hx hb hts iX13 hown hK hP 0 rfl rfl 1 (by decide) (hts _ qfl_X13_13) (fun _ h9 => h9) rfl dX13_begin_6 ?_
  refine lv_iconst (v := 0) hx hb dX13_begin_9 (by decide) ?_
  obtain ⟨q1, c1, h⟩ := x_call h
  refine xCall (w2 := MW cA h0 ((Ms1 (Ms0 s0 q1.1) q1.2))) (xRunS (n := 4) (As := [.ref (h0 1), .int 0, .ref (h0 2), .int 0]) (rest := []) ⟨hx, hb, hml, hown, hts⟩ (kX13_copy l D cA (fun k => h0 (k + 1)) (fun k => h0 (k + 2)) _ N 229 229 0 0 s0.1 s0.2.1 q1 c1) qco_X13_copy qml_X13_42 qst_X13_copy qini_X13 (by decide +kernel) (by rw [← erm]; rfl) hK hP hD [1, 2] rfl rfl rfl rfl hl.1 rfl (lv_room (Nat.le_of_ble_eq_true rfl)) dX13_begin_10 ⟨Nat.zero_le _, Nat.zero_le _⟩) hP hD hS hA [1, 2] [0, 3, 4, 5, 6, 7] [0, 6, 7, 1, 2, 3, 4, 5] rfl (wr := [(h0 0, .inr (12, [.ref (h0 1), .ref (h0 2), .ref (h0 3), .int (s0.2.2.2.1), .ref (h0 4), .int (s0.2.2.2.2.2.1), .ref (h0 5), .int (s0.2.2.2.2.2.2.2.1), .int (s0.2.2.2.2.2.2.2.2.1), .int (s0.2.2.2.2.2.2.2.2.2.1), .ref (h0 6), .int (s0.2.2.2.2.2.2.2.2.2.2.2.1), .int (s0.2.2.2.2.2.2.2.2.2.2.2.2.1), .int (s0.2.2.2.2.2.2.2.2.2.2.2.2.2.1), .int (s0.2.2.2.2.2.2.2.2.2.2.2.2.2.2.1), .ref (h0 7)])), (h0 3, .inl (cA 0, 1832, .inl (s0.2.2.1))), (h0 4, .inl (cA 0, 229, .inl (s0.2.2.2.2.1))), (h0 5, .inl (cA 1, 60, .inl (s0.2.2.2.2.2.2.1))), (h0 6, .inl (cA 1, 60, .inl (s0.2.2.2.2.2.2.2.2.2.2.1))), (h0 7, .inl (cA 0, 240, .inl (s0.2.2.2.2.2.2.2.2.2.2.2.2.2.2.2)))]) rfl rfl rfl rfl rfl (fun H locs hP hD hS => ?_)
  have h := Option.some.inj h
  subst h
  exact xVret hx hb hr hlocks hP hK hD hS dX13_begin_13
def fX13_kept_L33 (N : Nat) (K62 : Int32 → MS → Option (Int32 × MS)) : Nat → Int32 → Int32 → MS → Option (Int32 × MS)
  | 0, _, _, _ => none
  | n + 1, v1_8, v2_8, s0_8 =>
    if 1603 ≤ v2_8 then
      K62 v1_8 s0_8
    else
      xrd 1832 (v2_8 + 229) fun k10 =>
      xrd 1832 v2_8 fun k11 =>
      xlet (upd s0_8.2.2.1 k11 (s0_8.2.2.1 k10)) fun g12 =>
      xlet (v2_8 + (1)) fun x13 =>
      fX13_kept_L33 N K62 n v1_8 x13 ((Ms2 s0_8 g12))
def fX13_kept (N : Nat) (a1 : Int32) (s0 : MS) : Option (Int32 × MS) :=
  if s0.2.2.2.2.2.2.2.2.2.2.2.2.1 = 0 then
    xjoin (fun (v1_2 : Int32) (s0_2 : MS) =>
        xcall (fX13_copy N 229 1832 0 (s0_2.2.2.2.1 * 229) s0_2.2.1 s0_2.2.2.1) fun q3 =>
        xlet (s0_2.2.2.2.1 + 1) fun x4 =>
        some (v1_2, (Ms3 (Ms2 (Ms1 s0_2 q3.1) q3.2) x4))
      ) fun J72 =>
    if s0.2.2.2.1 = 8 then
      xjoin (fun (v1_6 : Int32) (s0_6 : MS) =>
          xlet (s0_6.2.2.2.1 - 1) fun x7 =>
          J72 v1_6 ((Ms3 s0_6 x7))
        ) fun K62 =>
      fX13_kept_L33 N K62 N a1 0 s0
    else
      J72 a1 s0
  else
    xcall (fX13_copy N 229 229 0 0 s0.2.1 s0.1) fun q14 =>
    some (0, (Ms1 (Ms0 s0 q14.2) q14.1))
set_option maxRecDepth 100000 in
set_option maxHeartbeats 4000000 in
theorem kX13_kept (l : Launch) (D : va_G) (cA : Nat → ClassId) (h0 : Nat → Nat) (sz N : Nat) (a1 : Int32) (s0 : MS) (q : Int32 × MS) (h : fX13_kept N a1 s0 = some q) : xM l yX13_kept cX13_kept 3 (some .int) ({ frames := 1, cells := 0, slots := 0, locals := 24 }) D cA (MW cA h0 s0) sz [.ref (h0 0), .int a1] (some (.int q.1)) (MW cA h0 q.2) := by
  generalize erm : ({ frames := 1, cells := 0, slots := 0, locals := 24 } : Room) = rm
  refine xMet (by decide) (Nat.le_of_ble_eq_true rfl) ?_
  intro p e s m below meth c hx hb hr hlocks hml hts hown hin hK hP A eA hD hS hA hsz ls hl
  have hl : lv_has ls 3 [(0, .ref (h0 0)), (1, .int a1)] := hl
  clear eA
  rw [fX13_kept] at h
  refine lv_aload_n hx hb dX13_kept_0 rfl (lv_at hl 0 rfl) ?_
  refine va_get (D := D) (ci := 12) (v := .int s0.2.2.2.2.2.2.2.2.2.2.2.2.1) (C := RX13) (T := TX13) (N := 16) hx hb hts iX13 hown hK hP 0 rfl rfl 12 (by decide) (hts _ qfl_X13_39) (fun _ h9 => h9) rfl dX13_kept_1 ?_
  refine lv_if_eq (tgt := 22) hx hb dX13_kept_4 (by decide) (fun c1 => ?_) (fun c1 => ?_)
  · have h := x_t h c1
    refine lv_aload_n hx hb dX13_kept_22 rfl (lv_at hl 0 rfl) ?_
    refine va_get (D := D) (ci := 12) (v := .int s0.2.2.2.1) (C := RX13) (T := TX13) (N := 16) hx hb hts iX13 hown hK hP 0 rfl rfl 3 (by decide) (hts _ qfl_X13_46) (fun _ h9 => h9) rfl dX13_kept_23 ?_
    refine lv_bipush (v := 8) hx hb dX13_kept_26 (by decide) ?_
    obtain ⟨J72, eJ72, h⟩ := x_join h
    have hJ_J72 : ∀ (v1_2 : Int32) (s0_2 : MS) (H : Heap) (locs : List Loc), va_P D vwCl (MW cA h0 s0_2) H → va_D A (MW cA h0 s0_2) → va_S A s.heap H locs → ∀ ls : Array Slot, lv_has ls 3 [(0, .ref (h0 0)), (1, .int v1_2)] → J72 v1_2 s0_2 = some q → W p l e rm s m ([.ref (h0 0), .int a1] : List Value).toArray below meth c H locs 0 0 (MQ below (xQ D cA A (MW cA h0 q.2) (some (.int q.1))) ([.ref (h0 0), .int a1] : List Value).toArray s 0 0 A) (F0 m 72 ls []) := by
      clear h hP hD hS hl
      intro v1_2 s0_2 H locs hP hD hS ls hl h
      rw [eJ72] at h
      refine lv_aload_n hx hb dX13_kept_72 rfl (lv_at hl 0 rfl) ?_
      refine va_get (D := D) (ci := 12) (v := .ref (h0 2)) (C := RX13) (T := TX13) (N := 16) hx hb hts iX13 hown hK hP 0 rfl rfl 1 (by decide) (hts _ qfl_X13_13) (fun _ h9 => h9) rfl dX13_kept_73 ?_
      refine lv_iconst (v := 0) hx hb dX13_kept_76 (by decide) ?_
      refine lv_aload_n hx hb dX13_kept_77 rfl (lv_at hl 0 rfl) ?_
      refine va_get (D := D) (ci := 12) (v := .ref (h0 3)) (C := RX13) (T := TX13) (N := 16) hx hb hts iX13 hown hK hP 0 rfl rfl 2 (by decide) (hts _ qfl_X13_16) (fun _ h9 => h9) rfl dX13_kept_78 ?_
      refine lv_aload_n hx hb dX13_kept_81 rfl (lv_at hl 0 rfl) ?_
      refine va_get (D := D) (ci := 12) (v := .int s0_2.2.2.2.1) (C := RX13) (T := TX13) (N := 16) hx hb hts iX13 hown hK hP 0 rfl rfl 3 (by decide) (hts _ qfl_X13_46) (fun _ h9 => h9) rfl dX13_kept_82 ?_
      refine lv_sipush (v := 229) hx hb dX13_kept_85 (by decide) ?_
      refine lv_imul hx hb dX13_kept_88 ?_
      obtain ⟨q3, c3, h⟩ := x_call h
      refine xCall (w2 := MW cA h0 ((Ms2 (Ms1 s0_2 q3.1) q3.2))) (xRunS (n := 4) (As := [.ref (h0 2), .int 0, .ref (h0 3), .int (s0_2.2.2.2.1 * 229)]) (rest := []) ⟨hx, hb, hml, hown, hts⟩ (kX13_copy l D cA (fun k => h0 (k + 2)) (fun k => h0 (k + 3)) _ N 229 1832 0 (s0_2.2.2.2.1 * 229) s0_2.2.1 s0_2.2.2.1 q3 c3) qco_X13_copy qml_X13_42 qst_X13_copy qini_X13 (by decide +kernel) (by rw [← erm]; rfl) hK hP hD [2, 3] rfl rfl rfl rfl hl.1 rfl (lv_room (Nat.le_of_ble_eq_true rfl)) dX13_kept_89 ⟨Nat.zero_le _, Nat.zero_le _⟩) hP hD hS hA [2, 3] [0, 1, 4, 5, 6, 7] [0, 1, 6, 7, 2, 3, 4, 5] rfl (wr := [(h0 0, .inr (12, [.ref (h0 1), .ref (h0 2), .ref (h0 3), .int (s0_2.2.2.2.1), .ref (h0 4), .int (s0_2.2.2.2.2.2.1), .ref (h0 5), .int (s0_2.2.2.2.2.2.2.2.1), .int (s0_2.2.2.2.2.2.2.2.2.1), .int (s0_2.2.2.2.2.2.2.2.2.2.1), .ref (h0 6), .int (s0_2.2.2.2.2.2.2.2.2.2.2.2.1), .int (s0_2.2.2.2.2.2.2.2.2.2.2.2.2.1), .int (s0_2.2.2.2.2.2.2.2.2.2.2.2.2.2.1), .int (s0_2.2.2.2.2.2.2.2.2.2.2.2.2.2.2.1), .ref (h0 7)])), (h0 1, .inl (cA 0, 229, .inl (s0_2.1))), (h0 4, .inl (cA 0, 229, .inl (s0_2.2.2.2.2.1))), (h0 5, .inl (cA 1, 60, .inl (s0_2.2.2.2.2.2.2.1))), (h0 6, .inl (cA 1, 60, .inl (s0_2.2.2.2.2.2.2.2.2.2.2.1))), (h0 7, .inl (cA 0, 240, .inl (s0_2.2.2.2.2.2.2.2.2.2.2.2.2.2.2.2)))]) rfl rfl rfl rfl rfl (fun H locs hP hD hS => ?_)
      refine lv_aload_n hx hb dX13_kept_92 rfl (lv_at hl 0 rfl) ?_
      refine lv_dup hx hb dX13_kept_93 rfl ?_
      refine va_get (D := D) (ci := 12) (v := .int s0_2.2.2.2.1) (C := RX13) (T := TX13) (N := 16) hx hb hts iX13 hown hK hP 0 rfl rfl 3 (by decide) (hts _ qfl_X13_46) (fun _ h9 => h9) rfl dX13_kept_94 ?_
      refine lv_iconst (v := 1) hx hb dX13_kept_97 (by decide) ?_
      refine lv_iadd hx hb dX13_kept_98 ?_
      refine lv_topi (fun x4 ex4 => ?_)
      have h := x_let h ex4
      refine va_put (D := D) (ci := 12) (v := .int x4) (ty := .int) (C := RX13) (T := TX13) (N := 16) hx hb hts iX13 tyX13 tyX13_ok nmX13 hown hK hP hD hS 0 rfl rfl 3 (by decide) (hts _ qfl_X13_46) (fun _ h9 => h9) rfl (by decide +kernel) rfl rfl (Nat.le_of_ble_eq_true rfl) dX13_kept_99 (fun H locs hP hD hS => ?_)
      have hP : va_P D vwCl (MW cA h0 ((Ms3 (Ms2 (Ms1 s0_2 q3.1) q3.2) x4))) H := hP
      have hD : va_D A (MW cA h0 ((Ms3 (Ms2 (Ms1 s0_2 q3.1) q3.2) x4))) := hD
      refine lv_iload_n hx hb dX13_kept_102 rfl (lv_at hl 1 rfl) ?_
      have h := Option.some.inj h
      subst h
      exact xIret hx hb hr hlocks hP hK hD hS dX13_kept_103
    refine lv_icmp_ne (tgt := 72) hx hb dX13_kept_28 (by decide) (fun c5 => ?_) (fun c5 => ?_)
    · have h := x_f h c5
      exact hJ_J72 a1 s0 _ _ hP hD hS _ (lv_sub hl [0, 1] rfl) h
    · have h := x_t h c5
      refine lv_iconst (v := 0) hx hb dX13_kept_31 (by decide) ?_
      refine lv_istore_n (lv' := [(2, .int 0), (0, .ref (h0 0)), (1, .int a1)]) hx hb dX13_kept_32 rfl hl (by decide) rfl (fun ls hl => ?_)
      obtain ⟨K62, eK62, h⟩ := x_join h
      have hJ_K62 : ∀ (v1_6 : Int32) (s0_6 : MS) (H : Heap) (locs : List Loc), va_P D vwCl (MW cA h0 s0_6) H → va_D A (MW cA h0 s0_6) → va_S A s.heap H locs → ∀ ls : Array Slot, lv_has ls 3 [(0, .ref (h0 0)), (1, .int v1_6)] → K62 v1_6 s0_6 = some q → W p l e rm s m ([.ref (h0 0), .int a1] : List Value).toArray below meth c H locs 0 0 (MQ below (xQ D cA A (MW cA h0 q.2) (some (.int q.1))) ([.ref (h0 0), .int a1] : List Value).toArray s 0 0 A) (F0 m 62 ls []) := by
        clear h hP hD hS hl
        intro v1_6 s0_6 H locs hP hD hS ls hl h
        rw [eK62] at h
        refine lv_aload_n hx hb dX13_kept_62 rfl (lv_at hl 0 rfl) ?_
        refine lv_dup hx hb dX13_kept_63 rfl ?_
        refine va_get (D := D) (ci := 12) (v := .int s0_6.2.2.2.1) (C := RX13) (T := TX13) (N := 16) hx hb hts iX13 hown hK hP 0 rfl rfl 3 (by decide) (hts _ qfl_X13_46) (fun _ h9 => h9) rfl dX13_kept_64 ?_
        refine lv_iconst (v := 1) hx hb dX13_kept_67 (by decide) ?_
        refine lv_isub hx hb dX13_kept_68 ?_
        refine lv_topi (fun x7 ex7 => ?_)
        have h := x_let h ex7
        refine va_put (D := D) (ci := 12) (v := .int x7) (ty := .int) (C := RX13) (T := TX13) (N := 16) hx hb hts iX13 tyX13 tyX13_ok nmX13 hown hK hP hD hS 0 rfl rfl 3 (by decide) (hts _ qfl_X13_46) (fun _ h9 => h9) rfl (by decide +kernel) rfl rfl (Nat.le_of_ble_eq_true rfl) dX13_kept_69 (fun H locs hP hD hS => ?_)
        have hP : va_P D vwCl (MW cA h0 ((Ms3 s0_6 x7))) H := hP
        have hD : va_D A (MW cA h0 ((Ms3 s0_6 x7))) := hD
        exact hJ_J72 v1_6 ((Ms3 s0_6 x7)) _ _ hP hD hS _ (lv_sub hl [0, 1] rfl) h
      have hL33 : ∀ (n : Nat) (v1_8 : Int32) (v2_8 : Int32) (s0_8 : MS) (H : Heap) (locs : List Loc), va_P D vwCl (MW cA h0 s0_8) H → va_D A (MW cA h0 s0_8) → va_S A s.heap H locs → ∀ ls : Array Slot, lv_has ls 3 [(0, .ref (h0 0)), (1, .int v1_8), (2, .int v2_8)] → fX13_kept_L33 N K62 n v1_8 v2_8 s0_8 = some q → W p l e rm s m ([.ref (h0 0), .int a1] : List Value).toArray below meth c H locs 0 0 (MQ below (xQ D cA A (MW cA h0 q.2) (some (.int q.1))) ([.ref (h0 0), .int a1] : List Value).toArray s 0 0 A) (F0 m 33 ls []) := by
        clear h hP hD hS hl
        intro n
        induction n with
        | zero => intro v1_8 v2_8 s0_8 H locs hP hD hS ls hl h; rw [fX13_kept_L33] at h; cases h
        | succ n ih =>
          intro v1_8 v2_8 s0_8 H locs hP hD hS ls hl h
          rw [fX13_kept_L33] at h
          refine lv_iload_n hx hb dX13_kept_33 rfl (lv_at hl 2 rfl) ?_
          refine lv_sipush (v := 1603) hx hb dX13_kept_34 (by decide) ?_
          refine lv_icmp_ge (tgt := 62) hx hb dX13_kept_37 (by decide) (fun c9 => ?_) (fun c9 => ?_)
          · have h := x_t h c9
            exact hJ_K62 v1_8 s0_8 _ _ hP hD hS _ (lv_sub hl [0, 1] rfl) h
          · have h := x_f h c9
            refine lv_aload_n hx hb dX13_kept_40 rfl (lv_at hl 0 rfl) ?_
            refine va_get (D := D) (ci := 12) (v := .ref (h0 3)) (C := RX13) (T := TX13) (N := 16) hx hb hts iX13 hown hK hP 0 rfl rfl 2 (by decide) (hts _ qfl_X13_16) (fun _ h9 => h9) rfl dX13_kept_41 ?_
            refine lv_iload_n hx hb dX13_kept_44 rfl (lv_at hl 2 rfl) ?_
            refine lv_aload_n hx hb dX13_kept_45 rfl (lv_at hl 0 rfl) ?_
            refine va_get (D := D) (ci := 12) (v := .ref (h0 3)) (C := RX13) (T := TX13) (N := 16) hx hb hts iX13 hown hK hP 0 rfl rfl 2 (by decide) (hts _ qfl_X13_16) (fun _ h9 => h9) rfl dX13_kept_46 ?_
            refine lv_iload_n hx hb dX13_kept_49 rfl (lv_at hl 2 rfl) ?_
            refine lv_sipush (v := 229) hx hb dX13_kept_50 (by decide) ?_
            refine lv_iadd hx hb dX13_kept_53 ?_
            obtain ⟨k10, hk10, h⟩ := x_rd h
            refine xIald hx hb hK hP 3 0 rfl rfl hk10 dX13_kept_54 ?_
            obtain ⟨k11, hk11, h⟩ := x_rd h
            refine xIast (w2 := fun zz => MW cA h0 ((Ms2 s0_8 zz))) hx hb hK hP hD hS 3 0 rfl rfl hk11 (fun _ => rfl) dX13_kept_55 (fun g12 eg12 H locs hP hD hS => ?_)
            have h := x_let h eg12
            have hP : va_P D vwCl (MW cA h0 ((Ms2 s0_8 g12))) H := hP
            have hD : va_D A (MW cA h0 ((Ms2 s0_8 g12))) := hD
            obtain ⟨x13, ex13⟩ : ∃ y : Int32, y = v2_8 + (1) := ⟨_, rfl⟩
            have h := x_let h ex13
            refine lv_iinc (v := x13) (lv' := [(2, .int x13), (0, .ref (h0 0)), (1, .int v1_8)]) hx hb dX13_kept_56 hl (k := 2) rfl (by rw [ex13]; rfl) (by decide) rfl (fun ls hl => ?_)
            refine lv_goto (tgt := 33) hx hb dX13_kept_59 (by decide) ?_
            exact ih v1_8 x13 ((Ms2 s0_8 g12)) _ _ hP hD hS _ (lv_sub hl [1, 2, 0] rfl) h
      exact hL33 N a1 0 s0 _ _ hP hD hS _ (lv_sub hl [1, 2, 0] rfl) h
  · have h := x_f h c1
    refine lv_aload_n hx hb dX13_kept_7 rfl (lv_at hl 0 rfl) ?_
    refine va_get (D := D) (ci := 12) (v := .ref (h0 2)) (C := RX13) (T := TX13) (N := 16) hx hb hts iX13 hown hK hP 0 rfl rfl 1 (by decide) (hts _ qfl_X13_13) (fun _ h9 => h9) rfl dX13_kept_8 ?_
    refine lv_iconst (v := 0) hx hb dX13_kept_11 (by decide) ?_
    refine lv_aload_n hx hb dX13_kept_12 rfl (lv_at hl 0 rfl) ?_
    refine va_get (D := D) (ci := 12) (v := .ref (h0 1)) (C := RX13) (T := TX13) (N := 16) hx hb hts iX13 hown hK hP 0 rfl rfl 0 (by decide) (hts _ qfl_X13_7) (fun _ h9 => h9) rfl dX13_kept_13 ?_
    refine lv_iconst (v := 0) hx hb dX13_kept_16 (by decide) ?_
    obtain ⟨q14, c14, h⟩ := x_call h
    refine xCall (w2 := MW cA h0 ((Ms1 (Ms0 s0 q14.2) q14.1))) (xRunS (n := 4) (As := [.ref (h0 2), .int 0, .ref (h0 1), .int 0]) (rest := []) ⟨hx, hb, hml, hown, hts⟩ (kX13_copy l D cA (fun k => h0 (k + 2)) (fun k => h0 (k + 1)) _ N 229 229 0 0 s0.2.1 s0.1 q14 c14) qco_X13_copy qml_X13_42 qst_X13_copy qini_X13 (by decide +kernel) (by rw [← erm]; rfl) hK hP hD [2, 1] rfl rfl rfl rfl hl.1 rfl (lv_room (Nat.le_of_ble_eq_true rfl)) dX13_kept_17 ⟨Nat.zero_le _, Nat.zero_le _⟩) hP hD hS hA [2, 1] [0, 3, 4, 5, 6, 7] [0, 7, 6, 1, 2, 3, 4, 5] rfl (wr := [(h0 0, .inr (12, [.ref (h0 1), .ref (h0 2), .ref (h0 3), .int (s0.2.2.2.1), .ref (h0 4), .int (s0.2.2.2.2.2.1), .ref (h0 5), .int (s0.2.2.2.2.2.2.2.1), .int (s0.2.2.2.2.2.2.2.2.1), .int (s0.2.2.2.2.2.2.2.2.2.1), .ref (h0 6), .int (s0.2.2.2.2.2.2.2.2.2.2.2.1), .int (s0.2.2.2.2.2.2.2.2.2.2.2.2.1), .int (s0.2.2.2.2.2.2.2.2.2.2.2.2.2.1), .int (s0.2.2.2.2.2.2.2.2.2.2.2.2.2.2.1), .ref (h0 7)])), (h0 3, .inl (cA 0, 1832, .inl (s0.2.2.1))), (h0 4, .inl (cA 0, 229, .inl (s0.2.2.2.2.1))), (h0 5, .inl (cA 1, 60, .inl (s0.2.2.2.2.2.2.1))), (h0 6, .inl (cA 1, 60, .inl (s0.2.2.2.2.2.2.2.2.2.2.1))), (h0 7, .inl (cA 0, 240, .inl (s0.2.2.2.2.2.2.2.2.2.2.2.2.2.2.2)))]) rfl rfl rfl rfl rfl (fun H locs hP hD hS => ?_)
    refine lv_iconst (v := 0) hx hb dX13_kept_20 (by decide) ?_
    have h := Option.some.inj h
    subst h
    exact xIret hx hb hr hlocks hP hK hD hS dX13_kept_21
def fX13_isAccount (N : Nat) (a1 : Int32) (s0 : MS) : Option (Int32) :=
  xcall (fX13_in N a1 0 ((s0.1 1) - 1)) fun q1 =>
  xnz (xnar .boolean q1) <|
  some q1
set_option maxRecDepth 100000 in
set_option maxHeartbeats 4000000 in
theorem kX13_isAccount (l : Launch) (D : va_G) (cA : Nat → ClassId) (h0 : Nat → Nat) (sz N : Nat) (a1 : Int32) (s0 : MS) (q : Int32) (h : fX13_isAccount N a1 s0 = some q) : xM l yX13_isAccount cX13_isAccount 2 (some .boolean) ({ frames := 1, cells := 0, slots := 0, locals := 22 }) D cA (MW cA h0 s0) sz [.ref (h0 0), .int a1] (some (.int q)) (MW cA h0 s0) := by
  generalize erm : ({ frames := 1, cells := 0, slots := 0, locals := 22 } : Room) = rm
  refine xMet (by decide) (Nat.le_of_ble_eq_true rfl) ?_
  intro p e s m below meth c hx hb hr hlocks hml hts hown hin hK hP A eA hD hS hA hsz ls hl
  have hl : lv_has ls 2 [(0, .ref (h0 0)), (1, .int a1)] := hl
  clear eA
  rw [fX13_isAccount] at h
  refine lv_iload_n hx hb dX13_isAccount_0 rfl (lv_at hl 1 rfl) ?_
  refine lv_iconst (v := 0) hx hb dX13_isAccount_1 (by decide) ?_
  refine lv_aload_n hx hb dX13_isAccount_2 rfl (lv_at hl 0 rfl) ?_
  refine va_get (D := D) (ci := 12) (v := .ref (h0 1)) (C := RX13) (T := TX13) (N := 16) hx hb hts iX13 hown hK hP 0 rfl rfl 0 (by decide) (hts _ qfl_X13_7) (fun _ h9 => h9) rfl dX13_isAccount_3 ?_
  refine lv_iconst (v := 1) hx hb dX13_isAccount_6 (by decide) ?_
  refine xIald hx hb hK hP 1 0 rfl rfl (x_lit (k := 1) (by decide)) dX13_isAccount_7 ?_
  refine lv_iconst (v := 1) hx hb dX13_isAccount_8 (by decide) ?_
  refine lv_isub hx hb dX13_isAccount_9 ?_
  obtain ⟨q1, c1, h⟩ := x_call h
  refine xCall (w2 := MW cA h0 s0) (xRunS (n := 3) (As := [.int a1, .int 0, .int ((s0.1 1) - 1)]) (rest := []) ⟨hx, hb, hml, hown, hts⟩ (kX13_in l D cA  _ N a1 0 ((s0.1 1) - 1) q1 c1) qco_X13_in qml_X13_49 qst_X13_in qini_X13 (by decide +kernel) (by rw [← erm]; rfl) hK hP hD [] rfl rfl rfl rfl hl.1 rfl (lv_room (Nat.le_of_ble_eq_true rfl)) dX13_isAccount_10 ⟨Nat.zero_le _, Nat.zero_le _⟩) hP hD hS hA [] [0, 1, 2, 3, 4, 5, 6, 7] [0, 1, 2, 3, 4, 5, 6, 7] rfl (wr := [(h0 0, .inr (12, [.ref (h0 1), .ref (h0 2), .ref (h0 3), .int (s0.2.2.2.1), .ref (h0 4), .int (s0.2.2.2.2.2.1), .ref (h0 5), .int (s0.2.2.2.2.2.2.2.1), .int (s0.2.2.2.2.2.2.2.2.1), .int (s0.2.2.2.2.2.2.2.2.2.1), .ref (h0 6), .int (s0.2.2.2.2.2.2.2.2.2.2.2.1), .int (s0.2.2.2.2.2.2.2.2.2.2.2.2.1), .int (s0.2.2.2.2.2.2.2.2.2.2.2.2.2.1), .int (s0.2.2.2.2.2.2.2.2.2.2.2.2.2.2.1), .ref (h0 7)])), (h0 1, .inl (cA 0, 229, .inl (s0.1))), (h0 2, .inl (cA 0, 229, .inl (s0.2.1))), (h0 3, .inl (cA 0, 1832, .inl (s0.2.2.1))), (h0 4, .inl (cA 0, 229, .inl (s0.2.2.2.2.1))), (h0 5, .inl (cA 1, 60, .inl (s0.2.2.2.2.2.2.1))), (h0 6, .inl (cA 1, 60, .inl (s0.2.2.2.2.2.2.2.2.2.2.1))), (h0 7, .inl (cA 0, 240, .inl (s0.2.2.2.2.2.2.2.2.2.2.2.2.2.2.2)))]) rfl rfl rfl rfl rfl (fun H locs hP hD hS => ?_)
  obtain ⟨z2, h⟩ := x_nz h
  have h := Option.some.inj h
  subst h
  exact xZret hx hb hr hlocks (xnar_n z2) hP hK hD hS dX13_isAccount_13
def fX13_isKind (N : Nat) (a0 : Int32)  : Option (Int32) :=
  xjoin (fun (t0_1 : Int32) =>
      xnz (xnar .boolean t0_1) <|
      some t0_1
    ) fun J29 =>
  xjoin (fun (u_3 : Unit) =>
      J29 1
    ) fun J24 =>
  if a0 = 97 then
    J24 ()
  else
    if a0 = 108 then
      J24 ()
    else
      if a0 = 105 then
        J24 ()
      else
        if a0 = 101 then
          J24 ()
        else
          J29 0
set_option maxRecDepth 100000 in
set_option maxHeartbeats 4000000 in
theorem kX13_isKind (l : Launch) (D : va_G) (cA : Nat → ClassId)  (sz N : Nat) (a0 : Int32)  (q : Int32) (h : fX13_isKind N a0 = some q) : xM l yX13_isKind cX13_isKind 1 (some .boolean) ({ frames := 0, cells := 0, slots := 0, locals := 0 }) D cA (([] : va_W)) sz [.int a0] (some (.int q)) (([] : va_W)) := by
  generalize erm : ({ frames := 0, cells := 0, slots := 0, locals := 0 } : Room) = rm
  refine xMet (by decide) (Nat.le_of_ble_eq_true rfl) ?_
  intro p e s m below meth c hx hb hr hlocks hml hts hown hin hK hP A eA hD hS hA hsz ls hl
  have hl : lv_has ls 1 [(0, .int a0)] := hl
  clear eA
  rw [fX13_isKind] at h
  refine lv_iload_n hx hb dX13_isKind_0 rfl (lv_at hl 0 rfl) ?_
  refine lv_bipush (v := 97) hx hb dX13_isKind_1 (by decide) ?_
  obtain ⟨J29, eJ29, h⟩ := x_join h
  have hJ_J29 : ∀ (t0_1 : Int32) (H : Heap) (locs : List Loc), va_P D vwCl (([] : va_W)) H → va_D A (([] : va_W)) → va_S A s.heap H locs → ∀ ls : Array Slot, lv_has ls 1 [] → J29 t0_1 = some q → W p l e rm s m ([.int a0] : List Value).toArray below meth c H locs 0 0 (MQ below (xQ D cA A (([] : va_W)) (some (.int q))) ([.int a0] : List Value).toArray s 0 0 A) (F0 m 29 ls [.int t0_1]) := by
    clear h hP hD hS hl
    intro t0_1 H locs hP hD hS ls hl h
    rw [eJ29] at h
    obtain ⟨z2, h⟩ := x_nz h
    have h := Option.some.inj h
    subst h
    exact xZret hx hb hr hlocks (xnar_n z2) hP hK hD hS dX13_isKind_29
  obtain ⟨J24, eJ24, h⟩ := x_join h
  have hJ_J24 : ∀ (u_3 : Unit) (H : Heap) (locs : List Loc), va_P D vwCl (([] : va_W)) H → va_D A (([] : va_W)) → va_S A s.heap H locs → ∀ ls : Array Slot, lv_has ls 1 [] → J24 u_3 = some q → W p l e rm s m ([.int a0] : List Value).toArray below meth c H locs 0 0 (MQ below (xQ D cA A (([] : va_W)) (some (.int q))) ([.int a0] : List Value).toArray s 0 0 A) (F0 m 24 ls []) := by
    clear h hP hD hS hl
    intro u_3 H locs hP hD hS ls hl h
    rw [eJ24] at h
    refine lv_iconst (v := 1) hx hb dX13_isKind_24 (by decide) ?_
    refine lv_goto (tgt := 29) hx hb dX13_isKind_25 (by decide) ?_
    exact hJ_J29 1 _ _ hP hD hS _ (lv_sub hl [] rfl) h
  refine lv_icmp_eq (tgt := 24) hx hb dX13_isKind_3 (by decide) (fun c4 => ?_) (fun c4 => ?_)
  · have h := x_t h c4
    exact hJ_J24 () _ _ hP hD hS _ (lv_sub hl [] rfl) h
  · have h := x_f h c4
    refine lv_iload_n hx hb dX13_isKind_6 rfl (lv_at hl 0 rfl) ?_
    refine lv_bipush (v := 108) hx hb dX13_isKind_7 (by decide) ?_
    refine lv_icmp_eq (tgt := 24) hx hb dX13_isKind_9 (by decide) (fun c5 => ?_) (fun c5 => ?_)
    · have h := x_t h c5
      exact hJ_J24 () _ _ hP hD hS _ (lv_sub hl [] rfl) h
    · have h := x_f h c5
      refine lv_iload_n hx hb dX13_isKind_12 rfl (lv_at hl 0 rfl) ?_
      refine lv_bipush (v := 105) hx hb dX13_isKind_13 (by decide) ?_
      refine lv_icmp_eq (tgt := 24) hx hb dX13_isKind_15 (by decide) (fun c6 => ?_) (fun c6 => ?_)
      · have h := x_t h c6
        exact hJ_J24 () _ _ hP hD hS _ (lv_sub hl [] rfl) h
      · have h := x_f h c6
        refine lv_iload_n hx hb dX13_isKind_18 rfl (lv_at hl 0 rfl) ?_
        refine lv_bipush (v := 101) hx hb dX13_isKind_19 (by decide) ?_
        refine lv_icmp_ne (tgt := 28) hx hb dX13_isKind_21 (by decide) (fun c7 => ?_) (fun c7 => ?_)
        · have h := x_f h c7
          refine lv_iconst (v := 0) hx hb dX13_isKind_28 (by decide) ?_
          exact hJ_J29 0 _ _ hP hD hS _ (lv_sub hl [] rfl) h
        · have h := x_t h c7
          exact hJ_J24 () _ _ hP hD hS _ (lv_sub hl [] rfl) h
def fX13_balanceOf (N : Nat) (a1 : Int32) (s0 : MS) : Option (Int32) :=
  xrd 229 (33 + a1) fun k1 =>
  xrd 229 (45 + a1) fun k2 =>
  xlet ((s0.1 k1) - (s0.1 k2)) fun x3 =>
  xrd 229 (9 + a1) fun k4 =>
  xjoin (fun (t0_5 : Int32) =>
      some t0_5
    ) fun J54 =>
  xjoin (fun (v2_6 : Int32) =>
      J54 v2_6
    ) fun J48 =>
  if (s0.1 k4) = 97 then
    J48 x3
  else
    xrd 229 (9 + a1) fun k8 =>
    if (s0.1 k8) = 101 then
      J48 x3
    else
      J54 (-x3)
set_option maxRecDepth 100000 in
set_option maxHeartbeats 4000000 in
theorem kX13_balanceOf (l : Launch) (D : va_G) (cA : Nat → ClassId) (h0 : Nat → Nat) (sz N : Nat) (a1 : Int32) (s0 : MS) (q : Int32) (h : fX13_balanceOf N a1 s0 = some q) : xM l yX13_balanceOf cX13_balanceOf 3 (some .int) ({ frames := 0, cells := 0, slots := 0, locals := 0 }) D cA (MW cA h0 s0) sz [.ref (h0 0), .int a1] (some (.int q)) (MW cA h0 s0) := by
  generalize erm : ({ frames := 0, cells := 0, slots := 0, locals := 0 } : Room) = rm
  refine xMet (by decide) (Nat.le_of_ble_eq_true rfl) ?_
  intro p e s m below meth c hx hb hr hlocks hml hts hown hin hK hP A eA hD hS hA hsz ls hl
  have hl : lv_has ls 3 [(0, .ref (h0 0)), (1, .int a1)] := hl
  clear eA
  rw [fX13_balanceOf] at h
  refine lv_aload_n hx hb dX13_balanceOf_0 rfl (lv_at hl 0 rfl) ?_
  refine va_get (D := D) (ci := 12) (v := .ref (h0 1)) (C := RX13) (T := TX13) (N := 16) hx hb hts iX13 hown hK hP 0 rfl rfl 0 (by decide) (hts _ qfl_X13_7) (fun _ h9 => h9) rfl dX13_balanceOf_1 ?_
  refine lv_bipush (v := 33) hx hb dX13_balanceOf_4 (by decide) ?_
  refine lv_iload_n hx hb dX13_balanceOf_6 rfl (lv_at hl 1 rfl) ?_
  refine lv_iadd hx hb dX13_balanceOf_7 ?_
  obtain ⟨k1, hk1, h⟩ := x_rd h
  refine xIald hx hb hK hP 1 0 rfl rfl hk1 dX13_balanceOf_8 ?_
  refine lv_aload_n hx hb dX13_balanceOf_9 rfl (lv_at hl 0 rfl) ?_
  refine va_get (D := D) (ci := 12) (v := .ref (h0 1)) (C := RX13) (T := TX13) (N := 16) hx hb hts iX13 hown hK hP 0 rfl rfl 0 (by decide) (hts _ qfl_X13_7) (fun _ h9 => h9) rfl dX13_balanceOf_10 ?_
  refine lv_bipush (v := 45) hx hb dX13_balanceOf_13 (by decide) ?_
  refine lv_iload_n hx hb dX13_balanceOf_15 rfl (lv_at hl 1 rfl) ?_
  refine lv_iadd hx hb dX13_balanceOf_16 ?_
  obtain ⟨k2, hk2, h⟩ := x_rd h
  refine xIald hx hb hK hP 1 0 rfl rfl hk2 dX13_balanceOf_17 ?_
  refine lv_isub hx hb dX13_balanceOf_18 ?_
  refine lv_topi (fun x3 ex3 => ?_)
  have h := x_let h ex3
  refine lv_istore_n (lv' := [(2, .int x3), (0, .ref (h0 0)), (1, .int a1)]) hx hb dX13_balanceOf_19 rfl hl (by decide) rfl (fun ls hl => ?_)
  refine lv_aload_n hx hb dX13_balanceOf_20 rfl (lv_at hl 1 rfl) ?_
  refine va_get (D := D) (ci := 12) (v := .ref (h0 1)) (C := RX13) (T := TX13) (N := 16) hx hb hts iX13 hown hK hP 0 rfl rfl 0 (by decide) (hts _ qfl_X13_7) (fun _ h9 => h9) rfl dX13_balanceOf_21 ?_
  refine lv_bipush (v := 9) hx hb dX13_balanceOf_24 (by decide) ?_
  refine lv_iload_n hx hb dX13_balanceOf_26 rfl (lv_at hl 2 rfl) ?_
  refine lv_iadd hx hb dX13_balanceOf_27 ?_
  obtain ⟨k4, hk4, h⟩ := x_rd h
  refine xIald hx hb hK hP 1 0 rfl rfl hk4 dX13_balanceOf_28 ?_
  refine lv_bipush (v := 97) hx hb dX13_balanceOf_29 (by decide) ?_
  obtain ⟨J54, eJ54, h⟩ := x_join h
  have hJ_J54 : ∀ (t0_5 : Int32) (H : Heap) (locs : List Loc), va_P D vwCl (MW cA h0 s0) H → va_D A (MW cA h0 s0) → va_S A s.heap H locs → ∀ ls : Array Slot, lv_has ls 3 [] → J54 t0_5 = some q → W p l e rm s m ([.ref (h0 0), .int a1] : List Value).toArray below meth c H locs 0 0 (MQ below (xQ D cA A (MW cA h0 s0) (some (.int q))) ([.ref (h0 0), .int a1] : List Value).toArray s 0 0 A) (F0 m 54 ls [.int t0_5]) := by
    clear h hP hD hS hl
    intro t0_5 H locs hP hD hS ls hl h
    rw [eJ54] at h
    have h := Option.some.inj h
    subst h
    exact xIret hx hb hr hlocks hP hK hD hS dX13_balanceOf_54
  obtain ⟨J48, eJ48, h⟩ := x_join h
  have hJ_J48 : ∀ (v2_6 : Int32) (H : Heap) (locs : List Loc), va_P D vwCl (MW cA h0 s0) H → va_D A (MW cA h0 s0) → va_S A s.heap H locs → ∀ ls : Array Slot, lv_has ls 3 [(2, .int v2_6)] → J48 v2_6 = some q → W p l e rm s m ([.ref (h0 0), .int a1] : List Value).toArray below meth c H locs 0 0 (MQ below (xQ D cA A (MW cA h0 s0) (some (.int q))) ([.ref (h0 0), .int a1] : List Value).toArray s 0 0 A) (F0 m 48 ls []) := by
    clear h hP hD hS hl
    intro v2_6 H locs hP hD hS ls hl h
    rw [eJ48] at h
    refine lv_iload_n hx hb dX13_balanceOf_48 rfl (lv_at hl 0 rfl) ?_
    refine lv_goto (tgt := 54) hx hb dX13_balanceOf_49 (by decide) ?_
    exact hJ_J54 v2_6 _ _ hP hD hS _ (lv_sub hl [] rfl) h
  refine lv_icmp_eq (tgt := 48) hx hb dX13_balanceOf_31 (by decide) (fun c7 => ?_) (fun c7 => ?_)
  · have h := x_t h c7
    exact hJ_J48 x3 _ _ hP hD hS _ (lv_sub hl [0] rfl) h
  · have h := x_f h c7
    refine lv_aload_n hx hb dX13_balanceOf_34 rfl (lv_at hl 1 rfl) ?_
    refine va_get (D := D) (ci := 12) (v := .ref (h0 1)) (C := RX13) (T := TX13) (N := 16) hx hb hts iX13 hown hK hP 0 rfl rfl 0 (by decide) (hts _ qfl_X13_7) (fun _ h9 => h9) rfl dX13_balanceOf_35 ?_
    refine lv_bipush (v := 9) hx hb dX13_balanceOf_38 (by decide) ?_
    refine lv_iload_n hx hb dX13_balanceOf_40 rfl (lv_at hl 2 rfl) ?_
    refine lv_iadd hx hb dX13_balanceOf_41 ?_
    obtain ⟨k8, hk8, h⟩ := x_rd h
    refine xIald hx hb hK hP 1 0 rfl rfl hk8 dX13_balanceOf_42 ?_
    refine lv_bipush (v := 101) hx hb dX13_balanceOf_43 (by decide) ?_
    refine lv_icmp_ne (tgt := 52) hx hb dX13_balanceOf_45 (by decide) (fun c9 => ?_) (fun c9 => ?_)
    · have h := x_f h c9
      refine lv_iload_n hx hb dX13_balanceOf_52 rfl (lv_at hl 0 rfl) ?_
      refine lv_ineg hx hb dX13_balanceOf_53 ?_
      exact hJ_J54 (-x3) _ _ hP hD hS _ (lv_sub hl [] rfl) h
    · have h := x_t h c9
      exact hJ_J48 x3 _ _ hP hD hS _ (lv_sub hl [0] rfl) h
def fX13_profitNow_L4 (N : Nat) (s0 : MS) (K69 : Int32 → Option (Int32)) : Nat → Int32 → Int32 → Option (Int32)
  | 0, _, _ => none
  | n + 1, v1_2, v2_2 =>
    if (s0.1 1) ≤ v2_2 then
      K69 v1_2
    else
      xrd 229 (9 + v2_2) fun k4 =>
      xjoin (fun (t0_5 : Int32) (t1_5 : Int32) (v2_5 : Int32) =>
          xlet (t1_5 + t0_5) fun x6 =>
          xlet (v2_5 + (1)) fun x7 =>
          fX13_profitNow_L4 N s0 K69 n x6 x7
        ) fun J61 =>
      if (s0.1 k4) = 105 then
        xcall (fX13_balanceOf N v2_2 s0) fun q12 =>
        J61 q12 v1_2 v2_2
      else
        xrd 229 (9 + v2_2) fun k9 =>
        if (s0.1 k9) = 101 then
          xcall (fX13_balanceOf N v2_2 s0) fun q11 =>
          J61 (-q11) v1_2 v2_2
        else
          J61 0 v1_2 v2_2
def fX13_profitNow (N : Nat)  (s0 : MS) : Option (Int32) :=
  xjoin (fun (v1_1 : Int32) =>
      some v1_1
    ) fun K69 =>
  fX13_profitNow_L4 N s0 K69 N 0 0
set_option maxRecDepth 100000 in
set_option maxHeartbeats 4000000 in
theorem kX13_profitNow (l : Launch) (D : va_G) (cA : Nat → ClassId) (h0 : Nat → Nat) (sz N : Nat)  (s0 : MS) (q : Int32) (h : fX13_profitNow N s0 = some q) : xM l yX13_profitNow cX13_profitNow 3 (some .int) ({ frames := 1, cells := 0, slots := 0, locals := 22 }) D cA (MW cA h0 s0) sz [.ref (h0 0)] (some (.int q)) (MW cA h0 s0) := by
  generalize erm : ({ frames := 1, cells := 0, slots := 0, locals := 22 } : Room) = rm
  refine xMet (by decide) (Nat.le_of_ble_eq_true rfl) ?_
  intro p e s m below meth c hx hb hr hlocks hml hts hown hin hK hP A eA hD hS hA hsz ls hl
  have hl : lv_has ls 3 [(0, .ref (h0 0))] := hl
  clear eA
  rw [fX13_profitNow] at h
  refine lv_iconst (v := 0) hx hb dX13_profitNow_0 (by decide) ?_
  refine lv_istore_n (lv' := [(1, .int 0), (0, .ref (h0 0))]) hx hb dX13_profitNow_1 rfl hl (by decide) rfl (fun ls hl => ?_)
  refine lv_iconst (v := 0) hx hb dX13_profitNow_2 (by decide) ?_
  refine lv_istore_n (lv' := [(2, .int 0), (1, .int 0), (0, .ref (h0 0))]) hx hb dX13_profitNow_3 rfl hl (by decide) rfl (fun ls hl => ?_)
  obtain ⟨K69, eK69, h⟩ := x_join h
  have hJ_K69 : ∀ (v1_1 : Int32) (H : Heap) (locs : List Loc), va_P D vwCl (MW cA h0 s0) H → va_D A (MW cA h0 s0) → va_S A s.heap H locs → ∀ ls : Array Slot, lv_has ls 3 [(1, .int v1_1)] → K69 v1_1 = some q → W p l e rm s m ([.ref (h0 0)] : List Value).toArray below meth c H locs 0 0 (MQ below (xQ D cA A (MW cA h0 s0) (some (.int q))) ([.ref (h0 0)] : List Value).toArray s 0 0 A) (F0 m 69 ls []) := by
    clear h hP hD hS hl
    intro v1_1 H locs hP hD hS ls hl h
    rw [eK69] at h
    refine lv_iload_n hx hb dX13_profitNow_69 rfl (lv_at hl 0 rfl) ?_
    have h := Option.some.inj h
    subst h
    exact xIret hx hb hr hlocks hP hK hD hS dX13_profitNow_70
  have hL4 : ∀ (n : Nat) (v1_2 : Int32) (v2_2 : Int32) (H : Heap) (locs : List Loc), va_P D vwCl (MW cA h0 s0) H → va_D A (MW cA h0 s0) → va_S A s.heap H locs → ∀ ls : Array Slot, lv_has ls 3 [(0, .ref (h0 0)), (1, .int v1_2), (2, .int v2_2)] → fX13_profitNow_L4 N s0 K69 n v1_2 v2_2 = some q → W p l e rm s m ([.ref (h0 0)] : List Value).toArray below meth c H locs 0 0 (MQ below (xQ D cA A (MW cA h0 s0) (some (.int q))) ([.ref (h0 0)] : List Value).toArray s 0 0 A) (F0 m 4 ls []) := by
    clear h hP hD hS hl
    intro n
    induction n with
    | zero => intro v1_2 v2_2 H locs hP hD hS ls hl h; rw [fX13_profitNow_L4] at h; cases h
    | succ n ih =>
      intro v1_2 v2_2 H locs hP hD hS ls hl h
      rw [fX13_profitNow_L4] at h
      refine lv_iload_n hx hb dX13_profitNow_4 rfl (lv_at hl 2 rfl) ?_
      refine lv_aload_n hx hb dX13_profitNow_5 rfl (lv_at hl 0 rfl) ?_
      refine va_get (D := D) (ci := 12) (v := .ref (h0 1)) (C := RX13) (T := TX13) (N := 16) hx hb hts iX13 hown hK hP 0 rfl rfl 0 (by decide) (hts _ qfl_X13_7) (fun _ h9 => h9) rfl dX13_profitNow_6 ?_
      refine lv_iconst (v := 1) hx hb dX13_profitNow_9 (by decide) ?_
      refine xIald hx hb hK hP 1 0 rfl rfl (x_lit (k := 1) (by decide)) dX13_profitNow_10 ?_
      refine lv_icmp_ge (tgt := 69) hx hb dX13_profitNow_11 (by decide) (fun c3 => ?_) (fun c3 => ?_)
      · have h := x_t h c3
        exact hJ_K69 v1_2 _ _ hP hD hS _ (lv_sub hl [1] rfl) h
      · have h := x_f h c3
        refine lv_iload_n hx hb dX13_profitNow_14 rfl (lv_at hl 1 rfl) ?_
        refine lv_aload_n hx hb dX13_profitNow_15 rfl (lv_at hl 0 rfl) ?_
        refine va_get (D := D) (ci := 12) (v := .ref (h0 1)) (C := RX13) (T := TX13) (N := 16) hx hb hts iX13 hown hK hP 0 rfl rfl 0 (by decide) (hts _ qfl_X13_7) (fun _ h9 => h9) rfl dX13_profitNow_16 ?_
        refine lv_bipush (v := 9) hx hb dX13_profitNow_19 (by decide) ?_
        refine lv_iload_n hx hb dX13_profitNow_21 rfl (lv_at hl 2 rfl) ?_
        refine lv_iadd hx hb dX13_profitNow_22 ?_
        obtain ⟨k4, hk4, h⟩ := x_rd h
        refine xIald hx hb hK hP 1 0 rfl rfl hk4 dX13_profitNow_23 ?_
        refine lv_bipush (v := 105) hx hb dX13_profitNow_24 (by decide) ?_
        obtain ⟨J61, eJ61, h⟩ := x_join h
        have hJ_J61 : ∀ (t0_5 : Int32) (t1_5 : Int32) (v2_5 : Int32) (H : Heap) (locs : List Loc), va_P D vwCl (MW cA h0 s0) H → va_D A (MW cA h0 s0) → va_S A s.heap H locs → ∀ ls : Array Slot, lv_has ls 3 [(0, .ref (h0 0)), (2, .int v2_5)] → J61 t0_5 t1_5 v2_5 = some q → W p l e rm s m ([.ref (h0 0)] : List Value).toArray below meth c H locs 0 0 (MQ below (xQ D cA A (MW cA h0 s0) (some (.int q))) ([.ref (h0 0)] : List Value).toArray s 0 0 A) (F0 m 61 ls [.int t0_5, .int t1_5]) := by
          clear h hP hD hS hl
          intro t0_5 t1_5 v2_5 H locs hP hD hS ls hl h
          rw [eJ61] at h
          refine lv_iadd hx hb dX13_profitNow_61 ?_
          refine lv_topi (fun x6 ex6 => ?_)
          have h := x_let h ex6
          refine lv_istore_n (lv' := [(1, .int x6), (0, .ref (h0 0)), (2, .int v2_5)]) hx hb dX13_profitNow_62 rfl hl (by decide) rfl (fun ls hl => ?_)
          obtain ⟨x7, ex7⟩ : ∃ y : Int32, y = v2_5 + (1) := ⟨_, rfl⟩
          have h := x_let h ex7
          refine lv_iinc (v := x7) (lv' := [(2, .int x7), (1, .int x6), (0, .ref (h0 0))]) hx hb dX13_profitNow_63 hl (k := 2) rfl (by rw [ex7]; rfl) (by decide) rfl (fun ls hl => ?_)
          refine lv_goto (tgt := 4) hx hb dX13_profitNow_66 (by decide) ?_
          exact ih x6 x7 _ _ hP hD hS _ (lv_sub hl [2, 1, 0] rfl) h
        refine lv_icmp_ne (tgt := 37) hx hb dX13_profitNow_26 (by decide) (fun c8 => ?_) (fun c8 => ?_)
        · have h := x_f h c8
          refine lv_aload_n hx hb dX13_profitNow_37 rfl (lv_at hl 0 rfl) ?_
          refine va_get (D := D) (ci := 12) (v := .ref (h0 1)) (C := RX13) (T := TX13) (N := 16) hx hb hts iX13 hown hK hP 0 rfl rfl 0 (by decide) (hts _ qfl_X13_7) (fun _ h9 => h9) rfl dX13_profitNow_38 ?_
          refine lv_bipush (v := 9) hx hb dX13_profitNow_41 (by decide) ?_
          refine lv_iload_n hx hb dX13_profitNow_43 rfl (lv_at hl 2 rfl) ?_
          refine lv_iadd hx hb dX13_profitNow_44 ?_
          obtain ⟨k9, hk9, h⟩ := x_rd h
          refine xIald hx hb hK hP 1 0 rfl rfl hk9 dX13_profitNow_45 ?_
          refine lv_bipush (v := 101) hx hb dX13_profitNow_46 (by decide) ?_
          refine lv_icmp_ne (tgt := 60) hx hb dX13_profitNow_48 (by decide) (fun c10 => ?_) (fun c10 => ?_)
          · have h := x_f h c10
            refine lv_iconst (v := 0) hx hb dX13_profitNow_60 (by decide) ?_
            exact hJ_J61 0 v1_2 v2_2 _ _ hP hD hS _ (lv_sub hl [0, 2] rfl) h
          · have h := x_t h c10
            refine lv_aload_n hx hb dX13_profitNow_51 rfl (lv_at hl 0 rfl) ?_
            refine lv_iload_n hx hb dX13_profitNow_52 rfl (lv_at hl 2 rfl) ?_
            obtain ⟨q11, c11, h⟩ := x_call h
            refine xCall (w2 := MW cA h0 s0) (xRunV (n := 1) (As := [.int v2_2]) (rest := [.int v1_2]) ⟨hx, hb, hml, hown, hts⟩ (kX13_balanceOf l D cA h0 _ N v2_2 s0 q11 c11) qco_X13_balanceOf qml_X13_53 qin_X13_balanceOf qse_X13_balanceOf qini_X13 (by decide +kernel) (by rw [← erm]; rfl) hK hP hD [0, 1, 2, 3, 4, 5, 6, 7] rfl rfl (q0 := 0) rfl rfl rfl rfl rfl hl.1 rfl (lv_room (Nat.le_of_ble_eq_true rfl)) dX13_profitNow_53 ⟨Nat.zero_le _, Nat.zero_le _⟩) hP hD hS hA [0, 1, 2, 3, 4, 5, 6, 7] [] [0, 1, 2, 3, 4, 5, 6, 7] rfl (wr := []) rfl rfl rfl rfl rfl (fun H locs hP hD hS => ?_)
            refine lv_ineg hx hb dX13_profitNow_56 ?_
            refine lv_goto (tgt := 61) hx hb dX13_profitNow_57 (by decide) ?_
            exact hJ_J61 (-q11) v1_2 v2_2 _ _ hP hD hS _ (lv_sub hl [0, 2] rfl) h
        · have h := x_t h c8
          refine lv_aload_n hx hb dX13_profitNow_29 rfl (lv_at hl 0 rfl) ?_
          refine lv_iload_n hx hb dX13_profitNow_30 rfl (lv_at hl 2 rfl) ?_
          obtain ⟨q12, c12, h⟩ := x_call h
          refine xCall (w2 := MW cA h0 s0) (xRunV (n := 1) (As := [.int v2_2]) (rest := [.int v1_2]) ⟨hx, hb, hml, hown, hts⟩ (kX13_balanceOf l D cA h0 _ N v2_2 s0 q12 c12) qco_X13_balanceOf qml_X13_53 qin_X13_balanceOf qse_X13_balanceOf qini_X13 (by decide +kernel) (by rw [← erm]; rfl) hK hP hD [0, 1, 2, 3, 4, 5, 6, 7] rfl rfl (q0 := 0) rfl rfl rfl rfl rfl hl.1 rfl (lv_room (Nat.le_of_ble_eq_true rfl)) dX13_profitNow_31 ⟨Nat.zero_le _, Nat.zero_le _⟩) hP hD hS hA [0, 1, 2, 3, 4, 5, 6, 7] [] [0, 1, 2, 3, 4, 5, 6, 7] rfl (wr := []) rfl rfl rfl rfl rfl (fun H locs hP hD hS => ?_)
          refine lv_goto (tgt := 61) hx hb dX13_profitNow_34 (by decide) ?_
          exact hJ_J61 q12 v1_2 v2_2 _ _ hP hD hS _ (lv_sub hl [0, 2] rfl) h
  exact hL4 N 0 0 _ _ hP hD hS _ (lv_sub hl [2, 1, 0] rfl) h
def fX13_opens (N : Nat) (a1 : Int32) (a2 : Int32) (s0 : MS) : Option (Int32 × MS) :=
  xlet (s0.1 1) fun x1 =>
  if x1 = 12 then
    xcall (fX13_fails N 2 s0) fun q9 =>
    some (q9.1, q9.2)
  else
    xrd 229 (9 + x1) fun k3 =>
    xlet (upd s0.1 k3 a1) fun g4 =>
    xrd 229 (21 + x1) fun k5 =>
    xlet (upd g4 k5 (a2 + 1)) fun g6 =>
    xlet (upd g6 1 ((g6 1) + 1)) fun g7 =>
    xcall (fX13_done N x1 ((Ms0 s0 g7))) fun q8 =>
    some (q8.1, q8.2)
set_option maxRecDepth 100000 in
set_option maxHeartbeats 4000000 in
theorem kX13_opens (l : Launch) (D : va_G) (cA : Nat → ClassId) (h0 : Nat → Nat) (sz N : Nat) (a1 : Int32) (a2 : Int32) (s0 : MS) (q : Int32 × MS) (h : fX13_opens N a1 a2 s0 = some q) : xM l yX13_opens cX13_opens 4 (some .int) ({ frames := 1, cells := 0, slots := 0, locals := 21 }) D cA (MW cA h0 s0) sz [.ref (h0 0), .int a1, .int a2] (some (.int q.1)) (MW cA h0 q.2) := by
  generalize erm : ({ frames := 1, cells := 0, slots := 0, locals := 21 } : Room) = rm
  refine xMet (by decide) (Nat.le_of_ble_eq_true rfl) ?_
  intro p e s m below meth c hx hb hr hlocks hml hts hown hin hK hP A eA hD hS hA hsz ls hl
  have hl : lv_has ls 4 [(0, .ref (h0 0)), (1, .int a1), (2, .int a2)] := hl
  clear eA
  rw [fX13_opens] at h
  refine lv_aload_n hx hb dX13_opens_0 rfl (lv_at hl 0 rfl) ?_
  refine va_get (D := D) (ci := 12) (v := .ref (h0 1)) (C := RX13) (T := TX13) (N := 16) hx hb hts iX13 hown hK hP 0 rfl rfl 0 (by decide) (hts _ qfl_X13_7) (fun _ h9 => h9) rfl dX13_opens_1 ?_
  refine lv_iconst (v := 1) hx hb dX13_opens_4 (by decide) ?_
  refine xIald hx hb hK hP 1 0 rfl rfl (x_lit (k := 1) (by decide)) dX13_opens_5 ?_
  refine lv_topi (fun x1 ex1 => ?_)
  have h := x_let h ex1
  refine lv_istore_n (lv' := [(3, .int x1), (0, .ref (h0 0)), (1, .int a1), (2, .int a2)]) hx hb dX13_opens_6 rfl hl (by decide) rfl (fun ls hl => ?_)
  refine lv_iload_n hx hb dX13_opens_7 rfl (lv_at hl 0 rfl) ?_
  refine lv_bipush (v := 12) hx hb dX13_opens_8 (by decide) ?_
  refine lv_icmp_ne (tgt := 19) hx hb dX13_opens_10 (by decide) (fun c2 => ?_) (fun c2 => ?_)
  · have h := x_f h c2
    refine lv_aload_n hx hb dX13_opens_19 rfl (lv_at hl 1 rfl) ?_
    refine va_get (D := D) (ci := 12) (v := .ref (h0 1)) (C := RX13) (T := TX13) (N := 16) hx hb hts iX13 hown hK hP 0 rfl rfl 0 (by decide) (hts _ qfl_X13_7) (fun _ h9 => h9) rfl dX13_opens_20 ?_
    refine lv_bipush (v := 9) hx hb dX13_opens_23 (by decide) ?_
    refine lv_iload_n hx hb dX13_opens_25 rfl (lv_at hl 0 rfl) ?_
    refine lv_iadd hx hb dX13_opens_26 ?_
    refine lv_iload_n hx hb dX13_opens_27 rfl (lv_at hl 2 rfl) ?_
    obtain ⟨k3, hk3, h⟩ := x_rd h
    refine xIast (w2 := fun zz => MW cA h0 ((Ms0 s0 zz))) hx hb hK hP hD hS 1 0 rfl rfl hk3 (fun _ => rfl) dX13_opens_28 (fun g4 eg4 H locs hP hD hS => ?_)
    have h := x_let h eg4
    have hP : va_P D vwCl (MW cA h0 ((Ms0 s0 g4))) H := hP
    have hD : va_D A (MW cA h0 ((Ms0 s0 g4))) := hD
    refine lv_aload_n hx hb dX13_opens_29 rfl (lv_at hl 1 rfl) ?_
    refine va_get (D := D) (ci := 12) (v := .ref (h0 1)) (C := RX13) (T := TX13) (N := 16) hx hb hts iX13 hown hK hP 0 rfl rfl 0 (by decide) (hts _ qfl_X13_7) (fun _ h9 => h9) rfl dX13_opens_30 ?_
    refine lv_bipush (v := 21) hx hb dX13_opens_33 (by decide) ?_
    refine lv_iload_n hx hb dX13_opens_35 rfl (lv_at hl 0 rfl) ?_
    refine lv_iadd hx hb dX13_opens_36 ?_
    refine lv_iload_n hx hb dX13_opens_37 rfl (lv_at hl 3 rfl) ?_
    refine lv_iconst (v := 1) hx hb dX13_opens_38 (by decide) ?_
    refine lv_iadd hx hb dX13_opens_39 ?_
    obtain ⟨k5, hk5, h⟩ := x_rd h
    refine xIast (w2 := fun zz => MW cA h0 ((Ms0 s0 zz))) hx hb hK hP hD hS 1 0 rfl rfl hk5 (fun _ => rfl) dX13_opens_40 (fun g6 eg6 H locs hP hD hS => ?_)
    have h := x_let h eg6
    have hP : va_P D vwCl (MW cA h0 ((Ms0 s0 g6))) H := hP
    have hD : va_D A (MW cA h0 ((Ms0 s0 g6))) := hD
    refine lv_aload_n hx hb dX13_opens_41 rfl (lv_at hl 1 rfl) ?_
    refine va_get (D := D) (ci := 12) (v := .ref (h0 1)) (C := RX13) (T := TX13) (N := 16) hx hb hts iX13 hown hK hP 0 rfl rfl 0 (by decide) (hts _ qfl_X13_7) (fun _ h9 => h9) rfl dX13_opens_42 ?_
    refine lv_iconst (v := 1) hx hb dX13_opens_45 (by decide) ?_
    refine lv_dup2_11 hx hb dX13_opens_46 rfl rfl ?_
    refine xIald hx hb hK hP 1 0 rfl rfl (x_lit (k := 1) (by decide)) dX13_opens_47 ?_
    refine lv_iconst (v := 1) hx hb dX13_opens_48 (by decide) ?_
    refine lv_iadd hx hb dX13_opens_49 ?_
    refine xIast (w2 := fun zz => MW cA h0 ((Ms0 s0 zz))) hx hb hK hP hD hS 1 0 rfl rfl (x_lit (k := 1) (by decide)) (fun _ => rfl) dX13_opens_50 (fun g7 eg7 H locs hP hD hS => ?_)
    have h := x_let h eg7
    have hP : va_P D vwCl (MW cA h0 ((Ms0 s0 g7))) H := hP
    have hD : va_D A (MW cA h0 ((Ms0 s0 g7))) := hD
    refine lv_aload_n hx hb dX13_opens_51 rfl (lv_at hl 1 rfl) ?_
    refine lv_iload_n hx hb dX13_opens_52 rfl (lv_at hl 0 rfl) ?_
    obtain ⟨q8, c8, h⟩ := x_call h
    refine xCall (w2 := MW cA h0 q8.2) (xRunV (n := 1) (As := [.int x1]) (rest := []) ⟨hx, hb, hml, hown, hts⟩ (kX13_done l D cA h0 _ N x1 ((Ms0 s0 g7)) q8 c8) qco_X13_done qml_X13_60 qin_X13_done qse_X13_done qini_X13 (by decide +kernel) (by rw [← erm]; rfl) hK hP hD [0, 1, 2, 3, 4, 5, 6, 7] rfl rfl (q0 := 0) rfl rfl rfl rfl rfl hl.1 rfl (lv_room (Nat.le_of_ble_eq_true rfl)) dX13_opens_53 ⟨Nat.zero_le _, Nat.zero_le _⟩) hP hD hS hA [0, 1, 2, 3, 4, 5, 6, 7] [] [0, 1, 2, 3, 4, 5, 6, 7] rfl (wr := []) rfl rfl rfl rfl rfl (fun H locs hP hD hS => ?_)
    have h := Option.some.inj h
    subst h
    exact xIret hx hb hr hlocks hP hK hD hS dX13_opens_56
  · have h := x_t h c2
    refine lv_aload_n hx hb dX13_opens_13 rfl (lv_at hl 1 rfl) ?_
    refine lv_iconst (v := 2) hx hb dX13_opens_14 (by decide) ?_
    obtain ⟨q9, c9, h⟩ := x_call h
    refine xCall (w2 := MW cA h0 q9.2) (xRunV (n := 1) (As := [.int 2]) (rest := []) ⟨hx, hb, hml, hown, hts⟩ (kX13_fails l D cA h0 _ N 2 s0 q9 c9) qco_X13_fails qml_X13_57 qin_X13_fails qse_X13_fails qini_X13 (by decide +kernel) (by rw [← erm]; rfl) hK hP hD [0, 1, 2, 3, 4, 5, 6, 7] rfl rfl (q0 := 0) rfl rfl rfl rfl rfl hl.1 rfl (lv_room (Nat.le_of_ble_eq_true rfl)) dX13_opens_15 ⟨Nat.zero_le _, Nat.zero_le _⟩) hP hD hS hA [0, 1, 2, 3, 4, 5, 6, 7] [] [0, 1, 2, 3, 4, 5, 6, 7] rfl (wr := []) rfl rfl rfl rfl rfl (fun H locs hP hD hS => ?_)
    have h := Option.some.inj h
    subst h
    exact xIret hx hb hr hlocks hP hK hD hS dX13_opens_18
def fX13_open (N : Nat) (a1 : Int32) (s0 : MS) : Option (Int32 × MS) :=
  xcall (fX13_begin N s0) fun q1 =>
  xcall (fX13_isKind N a1) fun q2 =>
  xjoin (fun (t0_3 : Int32) (s0_3 : MS) =>
      xcall (fX13_kept N t0_3 s0_3) fun q4 =>
      some (q4.1, q4.2)
    ) fun J26 =>
  if q2 = 0 then
    xcall (fX13_fails N 1 q1) fun q6 =>
    J26 q6.1 q6.2
  else
    xcall (fX13_opens N a1 (-1) q1) fun q7 =>
    J26 q7.1 q7.2
set_option maxRecDepth 100000 in
set_option maxHeartbeats 4000000 in
theorem kX13_open (l : Launch) (D : va_G) (cA : Nat → ClassId) (h0 : Nat → Nat) (sz N : Nat) (a1 : Int32) (s0 : MS) (q : Int32 × MS) (h : fX13_open N a1 s0 = some q) : xM l yX13_open cX13_open 2 (some .int) ({ frames := 2, cells := 0, slots := 0, locals := 46 }) D cA (MW cA h0 s0) sz [.ref (h0 0), .int a1] (some (.int q.1)) (MW cA h0 q.2) := by
  generalize erm : ({ frames := 2, cells := 0, slots := 0, locals := 46 } : Room) = rm
  refine xMet (by decide) (Nat.le_of_ble_eq_true rfl) ?_
  intro p e s m below meth c hx hb hr hlocks hml hts hown hin hK hP A eA hD hS hA hsz ls hl
  have hl : lv_has ls 2 [(0, .ref (h0 0)), (1, .int a1)] := hl
  clear eA
  rw [fX13_open] at h
  refine lv_aload_n hx hb dX13_open_0 rfl (lv_at hl 0 rfl) ?_
  obtain ⟨q1, c1, h⟩ := x_call h
  refine xCall (w2 := MW cA h0 q1) (xRunV (n := 0) (As := []) (rest := []) ⟨hx, hb, hml, hown, hts⟩ (kX13_begin l D cA h0 _ N s0 q1 c1) qco_X13_begin qml_X13_63 qin_X13_begin qse_X13_begin qini_X13 (by decide +kernel) (by rw [← erm]; rfl) hK hP hD [0, 1, 2, 3, 4, 5, 6, 7] rfl rfl (q0 := 0) rfl rfl rfl rfl rfl hl.1 rfl (lv_room (Nat.le_of_ble_eq_true rfl)) dX13_open_1 ⟨Nat.zero_le _, Nat.zero_le _⟩) hP hD hS hA [0, 1, 2, 3, 4, 5, 6, 7] [] [0, 1, 2, 3, 4, 5, 6, 7] rfl (wr := []) rfl rfl rfl rfl rfl (fun H locs hP hD hS => ?_)
  refine lv_aload_n hx hb dX13_open_4 rfl (lv_at hl 0 rfl) ?_
  refine lv_iload_n hx hb dX13_open_5 rfl (lv_at hl 1 rfl) ?_
  obtain ⟨q2, c2, h⟩ := x_call h
  refine xCall (w2 := MW cA h0 q1) (xRunS (n := 1) (As := [.int a1]) (rest := [.ref (h0 0)]) ⟨hx, hb, hml, hown, hts⟩ (kX13_isKind l D cA  _ N a1 q2 c2) qco_X13_isKind qml_X13_66 qst_X13_isKind qini_X13 (by decide +kernel) (by rw [← erm]; rfl) hK hP hD [] rfl rfl rfl rfl hl.1 rfl (lv_room (Nat.le_of_ble_eq_true rfl)) dX13_open_6 ⟨Nat.zero_le _, Nat.zero_le _⟩) hP hD hS hA [] [0, 1, 2, 3, 4, 5, 6, 7] [0, 1, 2, 3, 4, 5, 6, 7] rfl (wr := [(h0 0, .inr (12, [.ref (h0 1), .ref (h0 2), .ref (h0 3), .int (q1.2.2.2.1), .ref (h0 4), .int (q1.2.2.2.2.2.1), .ref (h0 5), .int (q1.2.2.2.2.2.2.2.1), .int (q1.2.2.2.2.2.2.2.2.1), .int (q1.2.2.2.2.2.2.2.2.2.1), .ref (h0 6), .int (q1.2.2.2.2.2.2.2.2.2.2.2.1), .int (q1.2.2.2.2.2.2.2.2.2.2.2.2.1), .int (q1.2.2.2.2.2.2.2.2.2.2.2.2.2.1), .int (q1.2.2.2.2.2.2.2.2.2.2.2.2.2.2.1), .ref (h0 7)])), (h0 1, .inl (cA 0, 229, .inl (q1.1))), (h0 2, .inl (cA 0, 229, .inl (q1.2.1))), (h0 3, .inl (cA 0, 1832, .inl (q1.2.2.1))), (h0 4, .inl (cA 0, 229, .inl (q1.2.2.2.2.1))), (h0 5, .inl (cA 1, 60, .inl (q1.2.2.2.2.2.2.1))), (h0 6, .inl (cA 1, 60, .inl (q1.2.2.2.2.2.2.2.2.2.2.1))), (h0 7, .inl (cA 0, 240, .inl (q1.2.2.2.2.2.2.2.2.2.2.2.2.2.2.2)))]) rfl rfl rfl rfl rfl (fun H locs hP hD hS => ?_)
  obtain ⟨J26, eJ26, h⟩ := x_join h
  have hJ_J26 : ∀ (t0_3 : Int32) (s0_3 : MS) (H : Heap) (locs : List Loc), va_P D vwCl (MW cA h0 s0_3) H → va_D A (MW cA h0 s0_3) → va_S A s.heap H locs → ∀ ls : Array Slot, lv_has ls 2 [] → J26 t0_3 s0_3 = some q → W p l e rm s m ([.ref (h0 0), .int a1] : List Value).toArray below meth c H locs 0 0 (MQ below (xQ D cA A (MW cA h0 q.2) (some (.int q.1))) ([.ref (h0 0), .int a1] : List Value).toArray s 0 0 A) (F0 m 26 ls [.int t0_3, .ref (h0 0)]) := by
    clear h hP hD hS hl
    intro t0_3 s0_3 H locs hP hD hS ls hl h
    rw [eJ26] at h
    obtain ⟨q4, c4, h⟩ := x_call h
    refine xCall (w2 := MW cA h0 q4.2) (xRunV (n := 1) (As := [.int t0_3]) (rest := []) ⟨hx, hb, hml, hown, hts⟩ (kX13_kept l D cA h0 _ N t0_3 s0_3 q4 c4) qco_X13_kept qml_X13_74 qin_X13_kept qse_X13_kept qini_X13 (by decide +kernel) (by rw [← erm]; rfl) hK hP hD [0, 1, 2, 3, 4, 5, 6, 7] rfl rfl (q0 := 0) rfl rfl rfl rfl rfl hl.1 rfl (lv_room (Nat.le_of_ble_eq_true rfl)) dX13_open_26 ⟨Nat.zero_le _, Nat.zero_le _⟩) hP hD hS hA [0, 1, 2, 3, 4, 5, 6, 7] [] [0, 1, 2, 3, 4, 5, 6, 7] rfl (wr := []) rfl rfl rfl rfl rfl (fun H locs hP hD hS => ?_)
    have h := Option.some.inj h
    subst h
    exact xIret hx hb hr hlocks hP hK hD hS dX13_open_29
  refine lv_if_eq (tgt := 21) hx hb dX13_open_9 (by decide) (fun c5 => ?_) (fun c5 => ?_)
  · have h := x_t h c5
    refine lv_aload_n hx hb dX13_open_21 rfl (lv_at hl 0 rfl) ?_
    refine lv_iconst (v := 1) hx hb dX13_open_22 (by decide) ?_
    obtain ⟨q6, c6, h⟩ := x_call h
    refine xCall (w2 := MW cA h0 q6.2) (xRunV (n := 1) (As := [.int 1]) (rest := [.ref (h0 0)]) ⟨hx, hb, hml, hown, hts⟩ (kX13_fails l D cA h0 _ N 1 q1 q6 c6) qco_X13_fails qml_X13_57 qin_X13_fails qse_X13_fails qini_X13 (by decide +kernel) (by rw [← erm]; rfl) hK hP hD [0, 1, 2, 3, 4, 5, 6, 7] rfl rfl (q0 := 0) rfl rfl rfl rfl rfl hl.1 rfl (lv_room (Nat.le_of_ble_eq_true rfl)) dX13_open_23 ⟨Nat.zero_le _, Nat.zero_le _⟩) hP hD hS hA [0, 1, 2, 3, 4, 5, 6, 7] [] [0, 1, 2, 3, 4, 5, 6, 7] rfl (wr := []) rfl rfl rfl rfl rfl (fun H locs hP hD hS => ?_)
    exact hJ_J26 q6.1 q6.2 _ _ hP hD hS _ (lv_sub hl [] rfl) h
  · have h := x_f h c5
    refine lv_aload_n hx hb dX13_open_12 rfl (lv_at hl 0 rfl) ?_
    refine lv_iload_n hx hb dX13_open_13 rfl (lv_at hl 1 rfl) ?_
    refine lv_iconst (v := (-1)) hx hb dX13_open_14 (by decide) ?_
    obtain ⟨q7, c7, h⟩ := x_call h
    refine xCall (w2 := MW cA h0 q7.2) (xRunV (n := 2) (As := [.int a1, .int (-1)]) (rest := [.ref (h0 0)]) ⟨hx, hb, hml, hown, hts⟩ (kX13_opens l D cA h0 _ N a1 (-1) q1 q7 c7) qco_X13_opens qml_X13_70 qin_X13_opens qse_X13_opens qini_X13 (by decide +kernel) (by rw [← erm]; rfl) hK hP hD [0, 1, 2, 3, 4, 5, 6, 7] rfl rfl (q0 := 0) rfl rfl rfl rfl rfl hl.1 rfl (lv_room (Nat.le_of_ble_eq_true rfl)) dX13_open_15 ⟨Nat.zero_le _, Nat.zero_le _⟩) hP hD hS hA [0, 1, 2, 3, 4, 5, 6, 7] [] [0, 1, 2, 3, 4, 5, 6, 7] rfl (wr := []) rfl rfl rfl rfl rfl (fun H locs hP hD hS => ?_)
    refine lv_goto (tgt := 26) hx hb dX13_open_18 (by decide) ?_
    exact hJ_J26 q7.1 q7.2 _ _ hP hD hS _ (lv_sub hl [] rfl) h
def fX13_openBelow (N : Nat) (a1 : Int32) (s0 : MS) : Option (Int32 × MS) :=
  xcall (fX13_begin N s0) fun q1 =>
  xcall (fX13_isAccount N a1 q1) fun q2 =>
  xjoin (fun (t0_3 : Int32) (s0_3 : MS) =>
      xcall (fX13_kept N t0_3 s0_3) fun q4 =>
      some (q4.1, q4.2)
    ) fun J35 =>
  if q2 = 0 then
    xcall (fX13_fails N 1 q1) fun q6 =>
    J35 q6.1 q6.2
  else
    xrd 229 (9 + a1) fun k7 =>
    xcall (fX13_opens N (q1.1 k7) a1 q1) fun q8 =>
    J35 q8.1 q8.2
set_option maxRecDepth 100000 in
set_option maxHeartbeats 4000000 in
theorem kX13_openBelow (l : Launch) (D : va_G) (cA : Nat → ClassId) (h0 : Nat → Nat) (sz N : Nat) (a1 : Int32) (s0 : MS) (q : Int32 × MS) (h : fX13_openBelow N a1 s0 = some q) : xM l yX13_openBelow cX13_openBelow 2 (some .int) ({ frames := 2, cells := 0, slots := 0, locals := 46 }) D cA (MW cA h0 s0) sz [.ref (h0 0), .int a1] (some (.int q.1)) (MW cA h0 q.2) := by
  generalize erm : ({ frames := 2, cells := 0, slots := 0, locals := 46 } : Room) = rm
  refine xMet (by decide) (Nat.le_of_ble_eq_true rfl) ?_
  intro p e s m below meth c hx hb hr hlocks hml hts hown hin hK hP A eA hD hS hA hsz ls hl
  have hl : lv_has ls 2 [(0, .ref (h0 0)), (1, .int a1)] := hl
  clear eA
  rw [fX13_openBelow] at h
  refine lv_aload_n hx hb dX13_openBelow_0 rfl (lv_at hl 0 rfl) ?_
  obtain ⟨q1, c1, h⟩ := x_call h
  refine xCall (w2 := MW cA h0 q1) (xRunV (n := 0) (As := []) (rest := []) ⟨hx, hb, hml, hown, hts⟩ (kX13_begin l D cA h0 _ N s0 q1 c1) qco_X13_begin qml_X13_63 qin_X13_begin qse_X13_begin qini_X13 (by decide +kernel) (by rw [← erm]; rfl) hK hP hD [0, 1, 2, 3, 4, 5, 6, 7] rfl rfl (q0 := 0) rfl rfl rfl rfl rfl hl.1 rfl (lv_room (Nat.le_of_ble_eq_true rfl)) dX13_openBelow_1 ⟨Nat.zero_le _, Nat.zero_le _⟩) hP hD hS hA [0, 1, 2, 3, 4, 5, 6, 7] [] [0, 1, 2, 3, 4, 5, 6, 7] rfl (wr := []) rfl rfl rfl rfl rfl (fun H locs hP hD hS => ?_)
  refine lv_aload_n hx hb dX13_openBelow_4 rfl (lv_at hl 0 rfl) ?_
  refine lv_aload_n hx hb dX13_openBelow_5 rfl (lv_at hl 0 rfl) ?_
  refine lv_iload_n hx hb dX13_openBelow_6 rfl (lv_at hl 1 rfl) ?_
  obtain ⟨q2, c2, h⟩ := x_call h
  refine xCall (w2 := MW cA h0 q1) (xRunV (n := 1) (As := [.int a1]) (rest := [.ref (h0 0)]) ⟨hx, hb, hml, hown, hts⟩ (kX13_isAccount l D cA h0 _ N a1 q1 q2 c2) qco_X13_isAccount qml_X13_77 qin_X13_isAccount qse_X13_isAccount qini_X13 (by decide +kernel) (by rw [← erm]; rfl) hK hP hD [0, 1, 2, 3, 4, 5, 6, 7] rfl rfl (q0 := 0) rfl rfl rfl rfl rfl hl.1 rfl (lv_room (Nat.le_of_ble_eq_true rfl)) dX13_openBelow_7 ⟨Nat.zero_le _, Nat.zero_le _⟩) hP hD hS hA [0, 1, 2, 3, 4, 5, 6, 7] [] [0, 1, 2, 3, 4, 5, 6, 7] rfl (wr := []) rfl rfl rfl rfl rfl (fun H locs hP hD hS => ?_)
  obtain ⟨J35, eJ35, h⟩ := x_join h
  have hJ_J35 : ∀ (t0_3 : Int32) (s0_3 : MS) (H : Heap) (locs : List Loc), va_P D vwCl (MW cA h0 s0_3) H → va_D A (MW cA h0 s0_3) → va_S A s.heap H locs → ∀ ls : Array Slot, lv_has ls 2 [] → J35 t0_3 s0_3 = some q → W p l e rm s m ([.ref (h0 0), .int a1] : List Value).toArray below meth c H locs 0 0 (MQ below (xQ D cA A (MW cA h0 q.2) (some (.int q.1))) ([.ref (h0 0), .int a1] : List Value).toArray s 0 0 A) (F0 m 35 ls [.int t0_3, .ref (h0 0)]) := by
    clear h hP hD hS hl
    intro t0_3 s0_3 H locs hP hD hS ls hl h
    rw [eJ35] at h
    obtain ⟨q4, c4, h⟩ := x_call h
    refine xCall (w2 := MW cA h0 q4.2) (xRunV (n := 1) (As := [.int t0_3]) (rest := []) ⟨hx, hb, hml, hown, hts⟩ (kX13_kept l D cA h0 _ N t0_3 s0_3 q4 c4) qco_X13_kept qml_X13_74 qin_X13_kept qse_X13_kept qini_X13 (by decide +kernel) (by rw [← erm]; rfl) hK hP hD [0, 1, 2, 3, 4, 5, 6, 7] rfl rfl (q0 := 0) rfl rfl rfl rfl rfl hl.1 rfl (lv_room (Nat.le_of_ble_eq_true rfl)) dX13_openBelow_35 ⟨Nat.zero_le _, Nat.zero_le _⟩) hP hD hS hA [0, 1, 2, 3, 4, 5, 6, 7] [] [0, 1, 2, 3, 4, 5, 6, 7] rfl (wr := []) rfl rfl rfl rfl rfl (fun H locs hP hD hS => ?_)
    have h := Option.some.inj h
    subst h
    exact xIret hx hb hr hlocks hP hK hD hS dX13_openBelow_38
  refine lv_if_eq (tgt := 30) hx hb dX13_openBelow_10 (by decide) (fun c5 => ?_) (fun c5 => ?_)
  · have h := x_t h c5
    refine lv_aload_n hx hb dX13_openBelow_30 rfl (lv_at hl 0 rfl) ?_
    refine lv_iconst (v := 1) hx hb dX13_openBelow_31 (by decide) ?_
    obtain ⟨q6, c6, h⟩ := x_call h
    refine xCall (w2 := MW cA h0 q6.2) (xRunV (n := 1) (As := [.int 1]) (rest := [.ref (h0 0)]) ⟨hx, hb, hml, hown, hts⟩ (kX13_fails l D cA h0 _ N 1 q1 q6 c6) qco_X13_fails qml_X13_57 qin_X13_fails qse_X13_fails qini_X13 (by decide +kernel) (by rw [← erm]; rfl) hK hP hD [0, 1, 2, 3, 4, 5, 6, 7] rfl rfl (q0 := 0) rfl rfl rfl rfl rfl hl.1 rfl (lv_room (Nat.le_of_ble_eq_true rfl)) dX13_openBelow_32 ⟨Nat.zero_le _, Nat.zero_le _⟩) hP hD hS hA [0, 1, 2, 3, 4, 5, 6, 7] [] [0, 1, 2, 3, 4, 5, 6, 7] rfl (wr := []) rfl rfl rfl rfl rfl (fun H locs hP hD hS => ?_)
    exact hJ_J35 q6.1 q6.2 _ _ hP hD hS _ (lv_sub hl [] rfl) h
  · have h := x_f h c5
    refine lv_aload_n hx hb dX13_openBelow_13 rfl (lv_at hl 0 rfl) ?_
    refine lv_aload_n hx hb dX13_openBelow_14 rfl (lv_at hl 0 rfl) ?_
    refine va_get (D := D) (ci := 12) (v := .ref (h0 1)) (C := RX13) (T := TX13) (N := 16) hx hb hts iX13 hown hK hP 0 rfl rfl 0 (by decide) (hts _ qfl_X13_7) (fun _ h9 => h9) rfl dX13_openBelow_15 ?_
    refine lv_bipush (v := 9) hx hb dX13_openBelow_18 (by decide) ?_
    refine lv_iload_n hx hb dX13_openBelow_20 rfl (lv_at hl 1 rfl) ?_
    refine lv_iadd hx hb dX13_openBelow_21 ?_
    obtain ⟨k7, hk7, h⟩ := x_rd h
    refine xIald hx hb hK hP 1 0 rfl rfl hk7 dX13_openBelow_22 ?_
    refine lv_iload_n hx hb dX13_openBelow_23 rfl (lv_at hl 1 rfl) ?_
    obtain ⟨q8, c8, h⟩ := x_call h
    refine xCall (w2 := MW cA h0 q8.2) (xRunV (n := 2) (As := [.int (q1.1 k7), .int a1]) (rest := [.ref (h0 0)]) ⟨hx, hb, hml, hown, hts⟩ (kX13_opens l D cA h0 _ N (q1.1 k7) a1 q1 q8 c8) qco_X13_opens qml_X13_70 qin_X13_opens qse_X13_opens qini_X13 (by decide +kernel) (by rw [← erm]; rfl) hK hP hD [0, 1, 2, 3, 4, 5, 6, 7] rfl rfl (q0 := 0) rfl rfl rfl rfl rfl hl.1 rfl (lv_room (Nat.le_of_ble_eq_true rfl)) dX13_openBelow_24 ⟨Nat.zero_le _, Nat.zero_le _⟩) hP hD hS hA [0, 1, 2, 3, 4, 5, 6, 7] [] [0, 1, 2, 3, 4, 5, 6, 7] rfl (wr := []) rfl rfl rfl rfl rfl (fun H locs hP hD hS => ?_)
    refine lv_goto (tgt := 35) hx hb dX13_openBelow_27 (by decide) ?_
    exact hJ_J35 q8.1 q8.2 _ _ hP hD hS _ (lv_sub hl [] rfl) h
def fX13_enters_L26 (N : Nat) (K61 : Int32 → Int32 → Int32 → Int32 → Int32 → MS → Option (Int32 × MS)) : Nat → Int32 → Int32 → Int32 → Int32 → Int32 → Int32 → MS → Option (Int32 × MS)
  | 0, _, _, _, _, _, _, _ => none
  | n + 1, v1_28, v2_28, v3_28, v4_28, v5_28, v6_28, s0_28 =>
    if 19 ≤ v6_28 then
      K61 v1_28 v2_28 v3_28 v4_28 v5_28 s0_28
    else
      xrd 229 ((v5_28 + v6_28) + 1) fun k30 =>
      xrd 229 (v5_28 + v6_28) fun k31 =>
      xlet (upd s0_28.1 k31 (s0_28.1 k30)) fun g32 =>
      xlet (v6_28 + (1)) fun x33 =>
      fX13_enters_L26 N K61 n v1_28 v2_28 v3_28 v4_28 v5_28 x33 ((Ms0 s0_28 g32))
def fX13_enters_L15 (N : Nat) (K67 : Int32 → Int32 → Int32 → Int32 → MS → Option (Int32 × MS)) : Nat → Int32 → Int32 → Int32 → Int32 → Int32 → MS → Option (Int32 × MS)
  | 0, _, _, _, _, _, _ => none
  | n + 1, v1_24, v2_24, v3_24, v4_24, v5_24, s0_24 =>
    if 157 ≤ v5_24 then
      K67 v1_24 v2_24 v3_24 v4_24 s0_24
    else
      xjoin (fun (v1_26 : Int32) (v2_26 : Int32) (v3_26 : Int32) (v4_26 : Int32) (v5_26 : Int32) (s0_26 : MS) =>
          xlet (v5_26 + (20)) fun x27 =>
          fX13_enters_L15 N K67 n v1_26 v2_26 v3_26 v4_26 x27 s0_26
        ) fun K61 =>
      fX13_enters_L26 N K61 N v1_24 v2_24 v3_24 v4_24 v5_24 0 s0_24
def fX13_enters (N : Nat) (a1 : Int32) (a2 : Int32) (a3 : Int32) (a4 : Int32) (s0 : MS) : Option (Int32 × MS) :=
  xjoin (fun (v1_1 : Int32) (v2_1 : Int32) (v3_1 : Int32) (v4_1 : Int32) (s0_1 : MS) =>
      xlet (s0_1.1 2) fun x2 =>
      xrd 229 (57 + x2) fun k3 =>
      xlet (upd s0_1.1 k3 v1_1) fun g4 =>
      xrd 229 (77 + x2) fun k5 =>
      xlet (upd g4 k5 v2_1) fun g6 =>
      xrd 229 (97 + x2) fun k7 =>
      xlet (upd g6 k7 v3_1) fun g8 =>
      xrd 229 (117 + x2) fun k9 =>
      xlet (upd g8 k9 (g8 0)) fun g10 =>
      xrd 229 (137 + x2) fun k11 =>
      xlet (upd g10 k11 v4_1) fun g12 =>
      xrd 229 (33 + v1_1) fun k13 =>
      xrd 229 (33 + v1_1) fun k14 =>
      xlet (upd g12 k14 ((g12 k13) + v3_1)) fun g15 =>
      xrd 229 (45 + v2_1) fun k16 =>
      xrd 229 (45 + v2_1) fun k17 =>
      xlet (upd g15 k17 ((g15 k16) + v3_1)) fun g18 =>
      xlet (upd g18 2 ((g18 2) + 1)) fun g19 =>
      xlet (upd g19 3 ((g19 3) + 1)) fun g20 =>
      some ((g20 3) - 1, (Ms0 s0_1 g20))
    ) fun J77 =>
  if (s0.1 2) = 20 then
    xjoin (fun (v1_22 : Int32) (v2_22 : Int32) (v3_22 : Int32) (v4_22 : Int32) (s0_22 : MS) =>
        xlet (upd s0_22.1 2 ((s0_22.1 2) - 1)) fun g23 =>
        J77 v1_22 v2_22 v3_22 v4_22 ((Ms0 s0_22 g23))
      ) fun K67 =>
    fX13_enters_L15 N K67 N a1 a2 a3 a4 57 s0
  else
    J77 a1 a2 a3 a4 s0
set_option maxRecDepth 100000 in
set_option maxHeartbeats 4000000 in
theorem kX13_enters (l : Launch) (D : va_G) (cA : Nat → ClassId) (h0 : Nat → Nat) (sz N : Nat) (a1 : Int32) (a2 : Int32) (a3 : Int32) (a4 : Int32) (s0 : MS) (q : Int32 × MS) (h : fX13_enters N a1 a2 a3 a4 s0 = some q) : xM l yX13_enters cX13_enters 7 (some .int) ({ frames := 0, cells := 0, slots := 0, locals := 0 }) D cA (MW cA h0 s0) sz [.ref (h0 0), .int a1, .int a2, .int a3, .int a4] (some (.int q.1)) (MW cA h0 q.2) := by
  generalize erm : ({ frames := 0, cells := 0, slots := 0, locals := 0 } : Room) = rm
  refine xMet (by decide) (Nat.le_of_ble_eq_true rfl) ?_
  intro p e s m below meth c hx hb hr hlocks hml hts hown hin hK hP A eA hD hS hA hsz ls hl
  have hl : lv_has ls 7 [(0, .ref (h0 0)), (1, .int a1), (2, .int a2), (3, .int a3), (4, .int a4)] := hl
  clear eA
  rw [fX13_enters] at h
  refine lv_aload_n hx hb dX13_enters_0 rfl (lv_at hl 0 rfl) ?_
  refine va_get (D := D) (ci := 12) (v := .ref (h0 1)) (C := RX13) (T := TX13) (N := 16) hx hb hts iX13 hown hK hP 0 rfl rfl 0 (by decide) (hts _ qfl_X13_7) (fun _ h9 => h9) rfl dX13_enters_1 ?_
  refine lv_iconst (v := 2) hx hb dX13_enters_4 (by decide) ?_
  refine xIald hx hb hK hP 1 0 rfl rfl (x_lit (k := 2) (by decide)) dX13_enters_5 ?_
  refine lv_bipush (v := 20) hx hb dX13_enters_6 (by decide) ?_
  obtain ⟨J77, eJ77, h⟩ := x_join h
  have hJ_J77 : ∀ (v1_1 : Int32) (v2_1 : Int32) (v3_1 : Int32) (v4_1 : Int32) (s0_1 : MS) (H : Heap) (locs : List Loc), va_P D vwCl (MW cA h0 s0_1) H → va_D A (MW cA h0 s0_1) → va_S A s.heap H locs → ∀ ls : Array Slot, lv_has ls 7 [(0, .ref (h0 0)), (1, .int v1_1), (2, .int v2_1), (3, .int v3_1), (4, .int v4_1)] → J77 v1_1 v2_1 v3_1 v4_1 s0_1 = some q → W p l e rm s m ([.ref (h0 0), .int a1, .int a2, .int a3, .int a4] : List Value).toArray below meth c H locs 0 0 (MQ below (xQ D cA A (MW cA h0 q.2) (some (.int q.1))) ([.ref (h0 0), .int a1, .int a2, .int a3, .int a4] : List Value).toArray s 0 0 A) (F0 m 77 ls []) := by
    clear h hP hD hS hl
    intro v1_1 v2_1 v3_1 v4_1 s0_1 H locs hP hD hS ls hl h
    rw [eJ77] at h
    refine lv_aload_n hx hb dX13_enters_77 rfl (lv_at hl 0 rfl) ?_
    refine va_get (D := D) (ci := 12) (v := .ref (h0 1)) (C := RX13) (T := TX13) (N := 16) hx hb hts iX13 hown hK hP 0 rfl rfl 0 (by decide) (hts _ qfl_X13_7) (fun _ h9 => h9) rfl dX13_enters_78 ?_
    refine lv_iconst (v := 2) hx hb dX13_enters_81 (by decide) ?_
    refine xIald hx hb hK hP 1 0 rfl rfl (x_lit (k := 2) (by decide)) dX13_enters_82 ?_
    refine lv_topi (fun x2 ex2 => ?_)
    have h := x_let h ex2
    refine lv_istore (lv' := [(5, .int x2), (0, .ref (h0 0)), (1, .int v1_1), (2, .int v2_1), (3, .int v3_1), (4, .int v4_1)]) hx hb dX13_enters_83 hl (by decide) rfl (fun ls hl => ?_)
    refine lv_aload_n hx hb dX13_enters_85 rfl (lv_at hl 1 rfl) ?_
    refine va_get (D := D) (ci := 12) (v := .ref (h0 1)) (C := RX13) (T := TX13) (N := 16) hx hb hts iX13 hown hK hP 0 rfl rfl 0 (by decide) (hts _ qfl_X13_7) (fun _ h9 => h9) rfl dX13_enters_86 ?_
    refine lv_bipush (v := 57) hx hb dX13_enters_89 (by decide) ?_
    refine lv_iload hx hb dX13_enters_91 (lv_at hl 0 rfl) ?_
    refine lv_iadd hx hb dX13_enters_93 ?_
    refine lv_iload_n hx hb dX13_enters_94 rfl (lv_at hl 2 rfl) ?_
    obtain ⟨k3, hk3, h⟩ := x_rd h
    refine xIast (w2 := fun zz => MW cA h0 ((Ms0 s0_1 zz))) hx hb hK hP hD hS 1 0 rfl rfl hk3 (fun _ => rfl) dX13_enters_95 (fun g4 eg4 H locs hP hD hS => ?_)
    have h := x_let h eg4
    have hP : va_P D vwCl (MW cA h0 ((Ms0 s0_1 g4))) H := hP
    have hD : va_D A (MW cA h0 ((Ms0 s0_1 g4))) := hD
    refine lv_aload_n hx hb dX13_enters_96 rfl (lv_at hl 1 rfl) ?_
    refine va_get (D := D) (ci := 12) (v := .ref (h0 1)) (C := RX13) (T := TX13) (N := 16) hx hb hts iX13 hown hK hP 0 rfl rfl 0 (by decide) (hts _ qfl_X13_7) (fun _ h9 => h9) rfl dX13_enters_97 ?_
    refine lv_bipush (v := 77) hx hb dX13_enters_100 (by decide) ?_
    refine lv_iload hx hb dX13_enters_102 (lv_at hl 0 rfl) ?_
    refine lv_iadd hx hb dX13_enters_104 ?_
    refine lv_iload_n hx hb dX13_enters_105 rfl (lv_at hl 3 rfl) ?_
    obtain ⟨k5, hk5, h⟩ := x_rd h
    refine xIast (w2 := fun zz => MW cA h0 ((Ms0 s0_1 zz))) hx hb hK hP hD hS 1 0 rfl rfl hk5 (fun _ => rfl) dX13_enters_106 (fun g6 eg6 H locs hP hD hS => ?_)
    have h := x_let h eg6
    have hP : va_P D vwCl (MW cA h0 ((Ms0 s0_1 g6))) H := hP
    have hD : va_D A (MW cA h0 ((Ms0 s0_1 g6))) := hD
    refine lv_aload_n hx hb dX13_enters_107 rfl (lv_at hl 1 rfl) ?_
    refine va_get (D := D) (ci := 12) (v := .ref (h0 1)) (C := RX13) (T := TX13) (N := 16) hx hb hts iX13 hown hK hP 0 rfl rfl 0 (by decide) (hts _ qfl_X13_7) (fun _ h9 => h9) rfl dX13_enters_108 ?_
    refine lv_bipush (v := 97) hx hb dX13_enters_111 (by decide) ?_
    refine lv_iload hx hb dX13_enters_113 (lv_at hl 0 rfl) ?_
    refine lv_iadd hx hb dX13_enters_115 ?_
    refine lv_iload_n hx hb dX13_enters_116 rfl (lv_at hl 4 rfl) ?_
    obtain ⟨k7, hk7, h⟩ := x_rd h
    refine xIast (w2 := fun zz => MW cA h0 ((Ms0 s0_1 zz))) hx hb hK hP hD hS 1 0 rfl rfl hk7 (fun _ => rfl) dX13_enters_117 (fun g8 eg8 H locs hP hD hS => ?_)
    have h := x_let h eg8
    have hP : va_P D vwCl (MW cA h0 ((Ms0 s0_1 g8))) H := hP
    have hD : va_D A (MW cA h0 ((Ms0 s0_1 g8))) := hD
    refine lv_aload_n hx hb dX13_enters_118 rfl (lv_at hl 1 rfl) ?_
    refine va_get (D := D) (ci := 12) (v := .ref (h0 1)) (C := RX13) (T := TX13) (N := 16) hx hb hts iX13 hown hK hP 0 rfl rfl 0 (by decide) (hts _ qfl_X13_7) (fun _ h9 => h9) rfl dX13_enters_119 ?_
    refine lv_bipush (v := 117) hx hb dX13_enters_122 (by decide) ?_
    refine lv_iload hx hb dX13_enters_124 (lv_at hl 0 rfl) ?_
    refine lv_iadd hx hb dX13_enters_126 ?_
    refine lv_aload_n hx hb dX13_enters_127 rfl (lv_at hl 1 rfl) ?_
    refine va_get (D := D) (ci := 12) (v := .ref (h0 1)) (C := RX13) (T := TX13) (N := 16) hx hb hts iX13 hown hK hP 0 rfl rfl 0 (by decide) (hts _ qfl_X13_7) (fun _ h9 => h9) rfl dX13_enters_128 ?_
    refine lv_iconst (v := 0) hx hb dX13_enters_131 (by decide) ?_
    refine xIald hx hb hK hP 1 0 rfl rfl (x_lit (k := 0) (by decide)) dX13_enters_132 ?_
    obtain ⟨k9, hk9, h⟩ := x_rd h
    refine xIast (w2 := fun zz => MW cA h0 ((Ms0 s0_1 zz))) hx hb hK hP hD hS 1 0 rfl rfl hk9 (fun _ => rfl) dX13_enters_133 (fun g10 eg10 H locs hP hD hS => ?_)
    have h := x_let h eg10
    have hP : va_P D vwCl (MW cA h0 ((Ms0 s0_1 g10))) H := hP
    have hD : va_D A (MW cA h0 ((Ms0 s0_1 g10))) := hD
    refine lv_aload_n hx hb dX13_enters_134 rfl (lv_at hl 1 rfl) ?_
    refine va_get (D := D) (ci := 12) (v := .ref (h0 1)) (C := RX13) (T := TX13) (N := 16) hx hb hts iX13 hown hK hP 0 rfl rfl 0 (by decide) (hts _ qfl_X13_7) (fun _ h9 => h9) rfl dX13_enters_135 ?_
    refine lv_sipush (v := 137) hx hb dX13_enters_138 (by decide) ?_
    refine lv_iload hx hb dX13_enters_141 (lv_at hl 0 rfl) ?_
    refine lv_iadd hx hb dX13_enters_143 ?_
    refine lv_iload hx hb dX13_enters_144 (lv_at hl 5 rfl) ?_
    obtain ⟨k11, hk11, h⟩ := x_rd h
    refine xIast (w2 := fun zz => MW cA h0 ((Ms0 s0_1 zz))) hx hb hK hP hD hS 1 0 rfl rfl hk11 (fun _ => rfl) dX13_enters_146 (fun g12 eg12 H locs hP hD hS => ?_)
    have h := x_let h eg12
    have hP : va_P D vwCl (MW cA h0 ((Ms0 s0_1 g12))) H := hP
    have hD : va_D A (MW cA h0 ((Ms0 s0_1 g12))) := hD
    refine lv_aload_n hx hb dX13_enters_147 rfl (lv_at hl 1 rfl) ?_
    refine va_get (D := D) (ci := 12) (v := .ref (h0 1)) (C := RX13) (T := TX13) (N := 16) hx hb hts iX13 hown hK hP 0 rfl rfl 0 (by decide) (hts _ qfl_X13_7) (fun _ h9 => h9) rfl dX13_enters_148 ?_
    refine lv_bipush (v := 33) hx hb dX13_enters_151 (by decide) ?_
    refine lv_iload_n hx hb dX13_enters_153 rfl (lv_at hl 2 rfl) ?_
    refine lv_iadd hx hb dX13_enters_154 ?_
    refine lv_dup2_11 hx hb dX13_enters_155 rfl rfl ?_
    obtain ⟨k13, hk13, h⟩ := x_rd h
    refine xIald hx hb hK hP 1 0 rfl rfl hk13 dX13_enters_156 ?_
    refine lv_iload_n hx hb dX13_enters_157 rfl (lv_at hl 4 rfl) ?_
    refine lv_iadd hx hb dX13_enters_158 ?_
    obtain ⟨k14, hk14, h⟩ := x_rd h
    refine xIast (w2 := fun zz => MW cA h0 ((Ms0 s0_1 zz))) hx hb hK hP hD hS 1 0 rfl rfl hk14 (fun _ => rfl) dX13_enters_159 (fun g15 eg15 H locs hP hD hS => ?_)
    have h := x_let h eg15
    have hP : va_P D vwCl (MW cA h0 ((Ms0 s0_1 g15))) H := hP
    have hD : va_D A (MW cA h0 ((Ms0 s0_1 g15))) := hD
    refine lv_aload_n hx hb dX13_enters_160 rfl (lv_at hl 1 rfl) ?_
    refine va_get (D := D) (ci := 12) (v := .ref (h0 1)) (C := RX13) (T := TX13) (N := 16) hx hb hts iX13 hown hK hP 0 rfl rfl 0 (by decide) (hts _ qfl_X13_7) (fun _ h9 => h9) rfl dX13_enters_161 ?_
    refine lv_bipush (v := 45) hx hb dX13_enters_164 (by decide) ?_
    refine lv_iload_n hx hb dX13_enters_166 rfl (lv_at hl 3 rfl) ?_
    refine lv_iadd hx hb dX13_enters_167 ?_
    refine lv_dup2_11 hx hb dX13_enters_168 rfl rfl ?_
    obtain ⟨k16, hk16, h⟩ := x_rd h
    refine xIald hx hb hK hP 1 0 rfl rfl hk16 dX13_enters_169 ?_
    refine lv_iload_n hx hb dX13_enters_170 rfl (lv_at hl 4 rfl) ?_
    refine lv_iadd hx hb dX13_enters_171 ?_
    obtain ⟨k17, hk17, h⟩ := x_rd h
    refine xIast (w2 := fun zz => MW cA h0 ((Ms0 s0_1 zz))) hx hb hK hP hD hS 1 0 rfl rfl hk17 (fun _ => rfl) dX13_enters_172 (fun g18 eg18 H locs hP hD hS => ?_)
    have h := x_let h eg18
    have hP : va_P D vwCl (MW cA h0 ((Ms0 s0_1 g18))) H := hP
    have hD : va_D A (MW cA h0 ((Ms0 s0_1 g18))) := hD
    refine lv_aload_n hx hb dX13_enters_173 rfl (lv_at hl 1 rfl) ?_
    refine va_get (D := D) (ci := 12) (v := .ref (h0 1)) (C := RX13) (T := TX13) (N := 16) hx hb hts iX13 hown hK hP 0 rfl rfl 0 (by decide) (hts _ qfl_X13_7) (fun _ h9 => h9) rfl dX13_enters_174 ?_
    refine lv_iconst (v := 2) hx hb dX13_enters_177 (by decide) ?_
    refine lv_dup2_11 hx hb dX13_enters_178 rfl rfl ?_
    refine xIald hx hb hK hP 1 0 rfl rfl (x_lit (k := 2) (by decide)) dX13_enters_179 ?_
    refine lv_iconst (v := 1) hx hb dX13_enters_180 (by decide) ?_
    refine lv_iadd hx hb dX13_enters_181 ?_
    refine xIast (w2 := fun zz => MW cA h0 ((Ms0 s0_1 zz))) hx hb hK hP hD hS 1 0 rfl rfl (x_lit (k := 2) (by decide)) (fun _ => rfl) dX13_enters_182 (fun g19 eg19 H locs hP hD hS => ?_)
    have h := x_let h eg19
    have hP : va_P D vwCl (MW cA h0 ((Ms0 s0_1 g19))) H := hP
    have hD : va_D A (MW cA h0 ((Ms0 s0_1 g19))) := hD
    refine lv_aload_n hx hb dX13_enters_183 rfl (lv_at hl 1 rfl) ?_
    refine va_get (D := D) (ci := 12) (v := .ref (h0 1)) (C := RX13) (T := TX13) (N := 16) hx hb hts iX13 hown hK hP 0 rfl rfl 0 (by decide) (hts _ qfl_X13_7) (fun _ h9 => h9) rfl dX13_enters_184 ?_
    refine lv_iconst (v := 3) hx hb dX13_enters_187 (by decide) ?_
    refine lv_dup2_11 hx hb dX13_enters_188 rfl rfl ?_
    refine xIald hx hb hK hP 1 0 rfl rfl (x_lit (k := 3) (by decide)) dX13_enters_189 ?_
    refine lv_iconst (v := 1) hx hb dX13_enters_190 (by decide) ?_
    refine lv_iadd hx hb dX13_enters_191 ?_
    refine xIast (w2 := fun zz => MW cA h0 ((Ms0 s0_1 zz))) hx hb hK hP hD hS 1 0 rfl rfl (x_lit (k := 3) (by decide)) (fun _ => rfl) dX13_enters_192 (fun g20 eg20 H locs hP hD hS => ?_)
    have h := x_let h eg20
    have hP : va_P D vwCl (MW cA h0 ((Ms0 s0_1 g20))) H := hP
    have hD : va_D A (MW cA h0 ((Ms0 s0_1 g20))) := hD
    refine lv_aload_n hx hb dX13_enters_193 rfl (lv_at hl 1 rfl) ?_
    refine va_get (D := D) (ci := 12) (v := .ref (h0 1)) (C := RX13) (T := TX13) (N := 16) hx hb hts iX13 hown hK hP 0 rfl rfl 0 (by decide) (hts _ qfl_X13_7) (fun _ h9 => h9) rfl dX13_enters_194 ?_
    refine lv_iconst (v := 3) hx hb dX13_enters_197 (by decide) ?_
    refine xIald hx hb hK hP 1 0 rfl rfl (x_lit (k := 3) (by decide)) dX13_enters_198 ?_
    refine lv_iconst (v := 1) hx hb dX13_enters_199 (by decide) ?_
    refine lv_isub hx hb dX13_enters_200 ?_
    have h := Option.some.inj h
    subst h
    exact xIret hx hb hr hlocks hP hK hD hS dX13_enters_201
  refine lv_icmp_ne (tgt := 77) hx hb dX13_enters_8 (by decide) (fun c21 => ?_) (fun c21 => ?_)
  · have h := x_f h c21
    exact hJ_J77 a1 a2 a3 a4 s0 _ _ hP hD hS _ (lv_sub hl [0, 1, 2, 3, 4] rfl) h
  · have h := x_t h c21
    refine lv_bipush (v := 57) hx hb dX13_enters_11 (by decide) ?_
    refine lv_istore (lv' := [(5, .int 57), (0, .ref (h0 0)), (1, .int a1), (2, .int a2), (3, .int a3), (4, .int a4)]) hx hb dX13_enters_13 hl (by decide) rfl (fun ls hl => ?_)
    obtain ⟨K67, eK67, h⟩ := x_join h
    have hJ_K67 : ∀ (v1_22 : Int32) (v2_22 : Int32) (v3_22 : Int32) (v4_22 : Int32) (s0_22 : MS) (H : Heap) (locs : List Loc), va_P D vwCl (MW cA h0 s0_22) H → va_D A (MW cA h0 s0_22) → va_S A s.heap H locs → ∀ ls : Array Slot, lv_has ls 7 [(0, .ref (h0 0)), (1, .int v1_22), (2, .int v2_22), (3, .int v3_22), (4, .int v4_22)] → K67 v1_22 v2_22 v3_22 v4_22 s0_22 = some q → W p l e rm s m ([.ref (h0 0), .int a1, .int a2, .int a3, .int a4] : List Value).toArray below meth c H locs 0 0 (MQ below (xQ D cA A (MW cA h0 q.2) (some (.int q.1))) ([.ref (h0 0), .int a1, .int a2, .int a3, .int a4] : List Value).toArray s 0 0 A) (F0 m 67 ls []) := by
      clear h hP hD hS hl
      intro v1_22 v2_22 v3_22 v4_22 s0_22 H locs hP hD hS ls hl h
      rw [eK67] at h
      refine lv_aload_n hx hb dX13_enters_67 rfl (lv_at hl 0 rfl) ?_
      refine va_get (D := D) (ci := 12) (v := .ref (h0 1)) (C := RX13) (T := TX13) (N := 16) hx hb hts iX13 hown hK hP 0 rfl rfl 0 (by decide) (hts _ qfl_X13_7) (fun _ h9 => h9) rfl dX13_enters_68 ?_
      refine lv_iconst (v := 2) hx hb dX13_enters_71 (by decide) ?_
      refine lv_dup2_11 hx hb dX13_enters_72 rfl rfl ?_
      refine xIald hx hb hK hP 1 0 rfl rfl (x_lit (k := 2) (by decide)) dX13_enters_73 ?_
      refine lv_iconst (v := 1) hx hb dX13_enters_74 (by decide) ?_
      refine lv_isub hx hb dX13_enters_75 ?_
      refine xIast (w2 := fun zz => MW cA h0 ((Ms0 s0_22 zz))) hx hb hK hP hD hS 1 0 rfl rfl (x_lit (k := 2) (by decide)) (fun _ => rfl) dX13_enters_76 (fun g23 eg23 H locs hP hD hS => ?_)
      have h := x_let h eg23
      have hP : va_P D vwCl (MW cA h0 ((Ms0 s0_22 g23))) H := hP
      have hD : va_D A (MW cA h0 ((Ms0 s0_22 g23))) := hD
      exact hJ_J77 v1_22 v2_22 v3_22 v4_22 ((Ms0 s0_22 g23)) _ _ hP hD hS _ (lv_sub hl [0, 1, 2, 3, 4] rfl) h
    have hL15 : ∀ (n : Nat) (v1_24 : Int32) (v2_24 : Int32) (v3_24 : Int32) (v4_24 : Int32) (v5_24 : Int32) (s0_24 : MS) (H : Heap) (locs : List Loc), va_P D vwCl (MW cA h0 s0_24) H → va_D A (MW cA h0 s0_24) → va_S A s.heap H locs → ∀ ls : Array Slot, lv_has ls 7 [(0, .ref (h0 0)), (1, .int v1_24), (2, .int v2_24), (3, .int v3_24), (4, .int v4_24), (5, .int v5_24)] → fX13_enters_L15 N K67 n v1_24 v2_24 v3_24 v4_24 v5_24 s0_24 = some q → W p l e rm s m ([.ref (h0 0), .int a1, .int a2, .int a3, .int a4] : List Value).toArray below meth c H locs 0 0 (MQ below (xQ D cA A (MW cA h0 q.2) (some (.int q.1))) ([.ref (h0 0), .int a1, .int a2, .int a3, .int a4] : List Value).toArray s 0 0 A) (F0 m 15 ls []) := by
      clear h hP hD hS hl
      intro n
      induction n with
      | zero => intro v1_24 v2_24 v3_24 v4_24 v5_24 s0_24 H locs hP hD hS ls hl h; rw [fX13_enters_L15] at h; cases h
      | succ n ih =>
        intro v1_24 v2_24 v3_24 v4_24 v5_24 s0_24 H locs hP hD hS ls hl h
        rw [fX13_enters_L15] at h
        refine lv_iload hx hb dX13_enters_15 (lv_at hl 5 rfl) ?_
        refine lv_sipush (v := 157) hx hb dX13_enters_17 (by decide) ?_
        refine lv_icmp_ge (tgt := 67) hx hb dX13_enters_20 (by decide) (fun c25 => ?_) (fun c25 => ?_)
        · have h := x_t h c25
          exact hJ_K67 v1_24 v2_24 v3_24 v4_24 s0_24 _ _ hP hD hS _ (lv_sub hl [0, 1, 2, 3, 4] rfl) h
        · have h := x_f h c25
          refine lv_iconst (v := 0) hx hb dX13_enters_23 (by decide) ?_
          refine lv_istore (lv' := [(6, .int 0), (0, .ref (h0 0)), (1, .int v1_24), (2, .int v2_24), (3, .int v3_24), (4, .int v4_24), (5, .int v5_24)]) hx hb dX13_enters_24 hl (by decide) rfl (fun ls hl => ?_)
          obtain ⟨K61, eK61, h⟩ := x_join h
          have hJ_K61 : ∀ (v1_26 : Int32) (v2_26 : Int32) (v3_26 : Int32) (v4_26 : Int32) (v5_26 : Int32) (s0_26 : MS) (H : Heap) (locs : List Loc), va_P D vwCl (MW cA h0 s0_26) H → va_D A (MW cA h0 s0_26) → va_S A s.heap H locs → ∀ ls : Array Slot, lv_has ls 7 [(0, .ref (h0 0)), (1, .int v1_26), (2, .int v2_26), (3, .int v3_26), (4, .int v4_26), (5, .int v5_26)] → K61 v1_26 v2_26 v3_26 v4_26 v5_26 s0_26 = some q → W p l e rm s m ([.ref (h0 0), .int a1, .int a2, .int a3, .int a4] : List Value).toArray below meth c H locs 0 0 (MQ below (xQ D cA A (MW cA h0 q.2) (some (.int q.1))) ([.ref (h0 0), .int a1, .int a2, .int a3, .int a4] : List Value).toArray s 0 0 A) (F0 m 61 ls []) := by
            clear h hP hD hS hl
            intro v1_26 v2_26 v3_26 v4_26 v5_26 s0_26 H locs hP hD hS ls hl h
            rw [eK61] at h
            obtain ⟨x27, ex27⟩ : ∃ y : Int32, y = v5_26 + (20) := ⟨_, rfl⟩
            have h := x_let h ex27
            refine lv_iinc (v := x27) (lv' := [(5, .int x27), (0, .ref (h0 0)), (1, .int v1_26), (2, .int v2_26), (3, .int v3_26), (4, .int v4_26)]) hx hb dX13_enters_61 hl (k := 5) rfl (by rw [ex27]; rfl) (by decide) rfl (fun ls hl => ?_)
            refine lv_goto (tgt := 15) hx hb dX13_enters_64 (by decide) ?_
            exact ih v1_26 v2_26 v3_26 v4_26 x27 s0_26 _ _ hP hD hS _ (lv_sub hl [1, 2, 3, 4, 5, 0] rfl) h
          have hL26 : ∀ (n : Nat) (v1_28 : Int32) (v2_28 : Int32) (v3_28 : Int32) (v4_28 : Int32) (v5_28 : Int32) (v6_28 : Int32) (s0_28 : MS) (H : Heap) (locs : List Loc), va_P D vwCl (MW cA h0 s0_28) H → va_D A (MW cA h0 s0_28) → va_S A s.heap H locs → ∀ ls : Array Slot, lv_has ls 7 [(0, .ref (h0 0)), (1, .int v1_28), (2, .int v2_28), (3, .int v3_28), (4, .int v4_28), (5, .int v5_28), (6, .int v6_28)] → fX13_enters_L26 N K61 n v1_28 v2_28 v3_28 v4_28 v5_28 v6_28 s0_28 = some q → W p l e rm s m ([.ref (h0 0), .int a1, .int a2, .int a3, .int a4] : List Value).toArray below meth c H locs 0 0 (MQ below (xQ D cA A (MW cA h0 q.2) (some (.int q.1))) ([.ref (h0 0), .int a1, .int a2, .int a3, .int a4] : List Value).toArray s 0 0 A) (F0 m 26 ls []) := by
            clear h hP hD hS hl
            intro n
            induction n with
            | zero => intro v1_28 v2_28 v3_28 v4_28 v5_28 v6_28 s0_28 H locs hP hD hS ls hl h; rw [fX13_enters_L26] at h; cases h
            | succ n ih =>
              intro v1_28 v2_28 v3_28 v4_28 v5_28 v6_28 s0_28 H locs hP hD hS ls hl h
              rw [fX13_enters_L26] at h
              refine lv_iload hx hb dX13_enters_26 (lv_at hl 6 rfl) ?_
              refine lv_bipush (v := 19) hx hb dX13_enters_28 (by decide) ?_
              refine lv_icmp_ge (tgt := 61) hx hb dX13_enters_30 (by decide) (fun c29 => ?_) (fun c29 => ?_)
              · have h := x_t h c29
                exact hJ_K61 v1_28 v2_28 v3_28 v4_28 v5_28 s0_28 _ _ hP hD hS _ (lv_sub hl [0, 1, 2, 3, 4, 5] rfl) h
              · have h := x_f h c29
                refine lv_aload_n hx hb dX13_enters_33 rfl (lv_at hl 0 rfl) ?_
                refine va_get (D := D) (ci := 12) (v := .ref (h0 1)) (C := RX13) (T := TX13) (N := 16) hx hb hts iX13 hown hK hP 0 rfl rfl 0 (by decide) (hts _ qfl_X13_7) (fun _ h9 => h9) rfl dX13_enters_34 ?_
                refine lv_iload hx hb dX13_enters_37 (lv_at hl 5 rfl) ?_
                refine lv_iload hx hb dX13_enters_39 (lv_at hl 6 rfl) ?_
                refine lv_iadd hx hb dX13_enters_41 ?_
                refine lv_aload_n hx hb dX13_enters_42 rfl (lv_at hl 0 rfl) ?_
                refine va_get (D := D) (ci := 12) (v := .ref (h0 1)) (C := RX13) (T := TX13) (N := 16) hx hb hts iX13 hown hK hP 0 rfl rfl 0 (by decide) (hts _ qfl_X13_7) (fun _ h9 => h9) rfl dX13_enters_43 ?_
                refine lv_iload hx hb dX13_enters_46 (lv_at hl 5 rfl) ?_
                refine lv_iload hx hb dX13_enters_48 (lv_at hl 6 rfl) ?_
                refine lv_iadd hx hb dX13_enters_50 ?_
                refine lv_iconst (v := 1) hx hb dX13_enters_51 (by decide) ?_
                refine lv_iadd hx hb dX13_enters_52 ?_
                obtain ⟨k30, hk30, h⟩ := x_rd h
                refine xIald hx hb hK hP 1 0 rfl rfl hk30 dX13_enters_53 ?_
                obtain ⟨k31, hk31, h⟩ := x_rd h
                refine xIast (w2 := fun zz => MW cA h0 ((Ms0 s0_28 zz))) hx hb hK hP hD hS 1 0 rfl rfl hk31 (fun _ => rfl) dX13_enters_54 (fun g32 eg32 H locs hP hD hS => ?_)
                have h := x_let h eg32
                have hP : va_P D vwCl (MW cA h0 ((Ms0 s0_28 g32))) H := hP
                have hD : va_D A (MW cA h0 ((Ms0 s0_28 g32))) := hD
                obtain ⟨x33, ex33⟩ : ∃ y : Int32, y = v6_28 + (1) := ⟨_, rfl⟩
                have h := x_let h ex33
                refine lv_iinc (v := x33) (lv' := [(6, .int x33), (0, .ref (h0 0)), (1, .int v1_28), (2, .int v2_28), (3, .int v3_28), (4, .int v4_28), (5, .int v5_28)]) hx hb dX13_enters_55 hl (k := 6) rfl (by rw [ex33]; rfl) (by decide) rfl (fun ls hl => ?_)
                refine lv_goto (tgt := 26) hx hb dX13_enters_58 (by decide) ?_
                exact ih v1_28 v2_28 v3_28 v4_28 v5_28 x33 ((Ms0 s0_28 g32)) _ _ hP hD hS _ (lv_sub hl [1, 2, 3, 4, 5, 6, 0] rfl) h
          exact hL26 N v1_24 v2_24 v3_24 v4_24 v5_24 0 s0_24 _ _ hP hD hS _ (lv_sub hl [1, 2, 3, 4, 5, 6, 0] rfl) h
    exact hL15 N a1 a2 a3 a4 57 s0 _ _ hP hD hS _ (lv_sub hl [1, 2, 3, 4, 5, 0] rfl) h
def fX13_whyNoEntry (N : Nat) (a1 : Int32) (a2 : Int32) (a3 : Int32) (s0 : MS) : Option (Int32) :=
  xcall (fX13_isAccount N a1 s0) fun q1 =>
  xjoin (fun (t0_2 : Int32) =>
      some t0_2
    ) fun J41 =>
  xjoin (fun (u_3 : Unit) =>
      J41 1
    ) fun J16 =>
  if q1 = 0 then
    J16 ()
  else
    xcall (fX13_isAccount N a2 s0) fun q5 =>
    if q5 = 0 then
      J16 ()
    else
      xjoin (fun (u_7 : Unit) =>
          J41 2
        ) fun J36 =>
      if a1 = a2 then
        J36 ()
      else
        xcall (fX13_in N a3 1 999) fun q9 =>
        if q9 = 0 then
          J36 ()
        else
          J41 0
set_option maxRecDepth 100000 in
set_option maxHeartbeats 4000000 in
theorem kX13_whyNoEntry (l : Launch) (D : va_G) (cA : Nat → ClassId) (h0 : Nat → Nat) (sz N : Nat) (a1 : Int32) (a2 : Int32) (a3 : Int32) (s0 : MS) (q : Int32) (h : fX13_whyNoEntry N a1 a2 a3 s0 = some q) : xM l yX13_whyNoEntry cX13_whyNoEntry 4 (some .int) ({ frames := 2, cells := 0, slots := 0, locals := 43 }) D cA (MW cA h0 s0) sz [.ref (h0 0), .int a1, .int a2, .int a3] (some (.int q)) (MW cA h0 s0) := by
  generalize erm : ({ frames := 2, cells := 0, slots := 0, locals := 43 } : Room) = rm
  refine xMet (by decide) (Nat.le_of_ble_eq_true rfl) ?_
  intro p e s m below meth c hx hb hr hlocks hml hts hown hin hK hP A eA hD hS hA hsz ls hl
  have hl : lv_has ls 4 [(0, .ref (h0 0)), (1, .int a1), (2, .int a2), (3, .int a3)] := hl
  clear eA
  rw [fX13_whyNoEntry] at h
  refine lv_aload_n hx hb dX13_whyNoEntry_0 rfl (lv_at hl 0 rfl) ?_
  refine lv_iload_n hx hb dX13_whyNoEntry_1 rfl (lv_at hl 1 rfl) ?_
  obtain ⟨q1, c1, h⟩ := x_call h
  refine xCall (w2 := MW cA h0 s0) (xRunV (n := 1) (As := [.int a1]) (rest := []) ⟨hx, hb, hml, hown, hts⟩ (kX13_isAccount l D cA h0 _ N a1 s0 q1 c1) qco_X13_isAccount qml_X13_77 qin_X13_isAccount qse_X13_isAccount qini_X13 (by decide +kernel) (by rw [← erm]; rfl) hK hP hD [0, 1, 2, 3, 4, 5, 6, 7] rfl rfl (q0 := 0) rfl rfl rfl rfl rfl hl.1 rfl (lv_room (Nat.le_of_ble_eq_true rfl)) dX13_whyNoEntry_2 ⟨Nat.zero_le _, Nat.zero_le _⟩) hP hD hS hA [0, 1, 2, 3, 4, 5, 6, 7] [] [0, 1, 2, 3, 4, 5, 6, 7] rfl (wr := []) rfl rfl rfl rfl rfl (fun H locs hP hD hS => ?_)
  obtain ⟨J41, eJ41, h⟩ := x_join h
  have hJ_J41 : ∀ (t0_2 : Int32) (H : Heap) (locs : List Loc), va_P D vwCl (MW cA h0 s0) H → va_D A (MW cA h0 s0) → va_S A s.heap H locs → ∀ ls : Array Slot, lv_has ls 4 [] → J41 t0_2 = some q → W p l e rm s m ([.ref (h0 0), .int a1, .int a2, .int a3] : List Value).toArray below meth c H locs 0 0 (MQ below (xQ D cA A (MW cA h0 s0) (some (.int q))) ([.ref (h0 0), .int a1, .int a2, .int a3] : List Value).toArray s 0 0 A) (F0 m 41 ls [.int t0_2]) := by
    clear h hP hD hS hl
    intro t0_2 H locs hP hD hS ls hl h
    rw [eJ41] at h
    have h := Option.some.inj h
    subst h
    exact xIret hx hb hr hlocks hP hK hD hS dX13_whyNoEntry_41
  obtain ⟨J16, eJ16, h⟩ := x_join h
  have hJ_J16 : ∀ (u_3 : Unit) (H : Heap) (locs : List Loc), va_P D vwCl (MW cA h0 s0) H → va_D A (MW cA h0 s0) → va_S A s.heap H locs → ∀ ls : Array Slot, lv_has ls 4 [] → J16 u_3 = some q → W p l e rm s m ([.ref (h0 0), .int a1, .int a2, .int a3] : List Value).toArray below meth c H locs 0 0 (MQ below (xQ D cA A (MW cA h0 s0) (some (.int q))) ([.ref (h0 0), .int a1, .int a2, .int a3] : List Value).toArray s 0 0 A) (F0 m 16 ls []) := by
    clear h hP hD hS hl
    intro u_3 H locs hP hD hS ls hl h
    rw [eJ16] at h
    refine lv_iconst (v := 1) hx hb dX13_whyNoEntry_16 (by decide) ?_
    refine lv_goto (tgt := 41) hx hb dX13_whyNoEntry_17 (by decide) ?_
    exact hJ_J41 1 _ _ hP hD hS _ (lv_sub hl [] rfl) h
  refine lv_if_eq (tgt := 16) hx hb dX13_whyNoEntry_5 (by decide) (fun c4 => ?_) (fun c4 => ?_)
  · have h := x_t h c4
    exact hJ_J16 () _ _ hP hD hS _ (lv_sub hl [] rfl) h
  · have h := x_f h c4
    refine lv_aload_n hx hb dX13_whyNoEntry_8 rfl (lv_at hl 0 rfl) ?_
    refine lv_iload_n hx hb dX13_whyNoEntry_9 rfl (lv_at hl 2 rfl) ?_
    obtain ⟨q5, c5, h⟩ := x_call h
    refine xCall (w2 := MW cA h0 s0) (xRunV (n := 1) (As := [.int a2]) (rest := []) ⟨hx, hb, hml, hown, hts⟩ (kX13_isAccount l D cA h0 _ N a2 s0 q5 c5) qco_X13_isAccount qml_X13_77 qin_X13_isAccount qse_X13_isAccount qini_X13 (by decide +kernel) (by rw [← erm]; rfl) hK hP hD [0, 1, 2, 3, 4, 5, 6, 7] rfl rfl (q0 := 0) rfl rfl rfl rfl rfl hl.1 rfl (lv_room (Nat.le_of_ble_eq_true rfl)) dX13_whyNoEntry_10 ⟨Nat.zero_le _, Nat.zero_le _⟩) hP hD hS hA [0, 1, 2, 3, 4, 5, 6, 7] [] [0, 1, 2, 3, 4, 5, 6, 7] rfl (wr := []) rfl rfl rfl rfl rfl (fun H locs hP hD hS => ?_)
    refine lv_if_ne (tgt := 20) hx hb dX13_whyNoEntry_13 (by decide) (fun c6 => ?_) (fun c6 => ?_)
    · have h := x_f h c6
      refine lv_iload_n hx hb dX13_whyNoEntry_20 rfl (lv_at hl 1 rfl) ?_
      refine lv_iload_n hx hb dX13_whyNoEntry_21 rfl (lv_at hl 2 rfl) ?_
      obtain ⟨J36, eJ36, h⟩ := x_join h
      have hJ_J36 : ∀ (u_7 : Unit) (H : Heap) (locs : List Loc), va_P D vwCl (MW cA h0 s0) H → va_D A (MW cA h0 s0) → va_S A s.heap H locs → ∀ ls : Array Slot, lv_has ls 4 [] → J36 u_7 = some q → W p l e rm s m ([.ref (h0 0), .int a1, .int a2, .int a3] : List Value).toArray below meth c H locs 0 0 (MQ below (xQ D cA A (MW cA h0 s0) (some (.int q))) ([.ref (h0 0), .int a1, .int a2, .int a3] : List Value).toArray s 0 0 A) (F0 m 36 ls []) := by
        clear h hP hD hS hl
        intro u_7 H locs hP hD hS ls hl h
        rw [eJ36] at h
        refine lv_iconst (v := 2) hx hb dX13_whyNoEntry_36 (by decide) ?_
        refine lv_goto (tgt := 41) hx hb dX13_whyNoEntry_37 (by decide) ?_
        exact hJ_J41 2 _ _ hP hD hS _ (lv_sub hl [] rfl) h
      refine lv_icmp_eq (tgt := 36) hx hb dX13_whyNoEntry_22 (by decide) (fun c8 => ?_) (fun c8 => ?_)
      · have h := x_t h c8
        exact hJ_J36 () _ _ hP hD hS _ (lv_sub hl [] rfl) h
      · have h := x_f h c8
        refine lv_iload_n hx hb dX13_whyNoEntry_25 rfl (lv_at hl 3 rfl) ?_
        refine lv_iconst (v := 1) hx hb dX13_whyNoEntry_26 (by decide) ?_
        refine lv_sipush (v := 999) hx hb dX13_whyNoEntry_27 (by decide) ?_
        obtain ⟨q9, c9, h⟩ := x_call h
        refine xCall (w2 := MW cA h0 s0) (xRunS (n := 3) (As := [.int a3, .int 1, .int 999]) (rest := []) ⟨hx, hb, hml, hown, hts⟩ (kX13_in l D cA  _ N a3 1 999 q9 c9) qco_X13_in qml_X13_49 qst_X13_in qini_X13 (by decide +kernel) (by rw [← erm]; rfl) hK hP hD [] rfl rfl rfl rfl hl.1 rfl (lv_room (Nat.le_of_ble_eq_true rfl)) dX13_whyNoEntry_30 ⟨Nat.zero_le _, Nat.zero_le _⟩) hP hD hS hA [] [0, 1, 2, 3, 4, 5, 6, 7] [0, 1, 2, 3, 4, 5, 6, 7] rfl (wr := [(h0 0, .inr (12, [.ref (h0 1), .ref (h0 2), .ref (h0 3), .int (s0.2.2.2.1), .ref (h0 4), .int (s0.2.2.2.2.2.1), .ref (h0 5), .int (s0.2.2.2.2.2.2.2.1), .int (s0.2.2.2.2.2.2.2.2.1), .int (s0.2.2.2.2.2.2.2.2.2.1), .ref (h0 6), .int (s0.2.2.2.2.2.2.2.2.2.2.2.1), .int (s0.2.2.2.2.2.2.2.2.2.2.2.2.1), .int (s0.2.2.2.2.2.2.2.2.2.2.2.2.2.1), .int (s0.2.2.2.2.2.2.2.2.2.2.2.2.2.2.1), .ref (h0 7)])), (h0 1, .inl (cA 0, 229, .inl (s0.1))), (h0 2, .inl (cA 0, 229, .inl (s0.2.1))), (h0 3, .inl (cA 0, 1832, .inl (s0.2.2.1))), (h0 4, .inl (cA 0, 229, .inl (s0.2.2.2.2.1))), (h0 5, .inl (cA 1, 60, .inl (s0.2.2.2.2.2.2.1))), (h0 6, .inl (cA 1, 60, .inl (s0.2.2.2.2.2.2.2.2.2.2.1))), (h0 7, .inl (cA 0, 240, .inl (s0.2.2.2.2.2.2.2.2.2.2.2.2.2.2.2)))]) rfl rfl rfl rfl rfl (fun H locs hP hD hS => ?_)
        refine lv_if_ne (tgt := 40) hx hb dX13_whyNoEntry_33 (by decide) (fun c10 => ?_) (fun c10 => ?_)
        · have h := x_f h c10
          refine lv_iconst (v := 0) hx hb dX13_whyNoEntry_40 (by decide) ?_
          exact hJ_J41 0 _ _ hP hD hS _ (lv_sub hl [] rfl) h
        · have h := x_t h c10
          exact hJ_J36 () _ _ hP hD hS _ (lv_sub hl [] rfl) h
    · have h := x_t h c6
      exact hJ_J16 () _ _ hP hD hS _ (lv_sub hl [] rfl) h
def fX13_posts (N : Nat) (a1 : Int32) (a2 : Int32) (a3 : Int32) (s0 : MS) : Option (Int32 × MS) :=
  xcall (fX13_whyNoEntry N a1 a2 a3 s0) fun q1 =>
  xjoin (fun (t0_2 : Int32) (s0_2 : MS) =>
      some (t0_2, s0_2)
    ) fun J35 =>
  if q1 ≤ 0 then
    xcall (fX13_enters N a1 a2 a3 0 s0) fun q4 =>
    xcall (fX13_done N q4.1 q4.2) fun q5 =>
    J35 q5.1 q5.2
  else
    xcall (fX13_fails N q1 s0) fun q6 =>
    J35 q6.1 q6.2
set_option maxRecDepth 100000 in
set_option maxHeartbeats 4000000 in
theorem kX13_posts (l : Launch) (D : va_G) (cA : Nat → ClassId) (h0 : Nat → Nat) (sz N : Nat) (a1 : Int32) (a2 : Int32) (a3 : Int32) (s0 : MS) (q : Int32 × MS) (h : fX13_posts N a1 a2 a3 s0 = some q) : xM l yX13_posts cX13_posts 5 (some .int) ({ frames := 3, cells := 0, slots := 0, locals := 66 }) D cA (MW cA h0 s0) sz [.ref (h0 0), .int a1, .int a2, .int a3] (some (.int q.1)) (MW cA h0 q.2) := by
  generalize erm : ({ frames := 3, cells := 0, slots := 0, locals := 66 } : Room) = rm
  refine xMet (by decide) (Nat.le_of_ble_eq_true rfl) ?_
  intro p e s m below meth c hx hb hr hlocks hml hts hown hin hK hP A eA hD hS hA hsz ls hl
  have hl : lv_has ls 5 [(0, .ref (h0 0)), (1, .int a1), (2, .int a2), (3, .int a3)] := hl
  clear eA
  rw [fX13_posts] at h
  refine lv_aload_n hx hb dX13_posts_0 rfl (lv_at hl 0 rfl) ?_
  refine lv_iload_n hx hb dX13_posts_1 rfl (lv_at hl 1 rfl) ?_
  refine lv_iload_n hx hb dX13_posts_2 rfl (lv_at hl 2 rfl) ?_
  refine lv_iload_n hx hb dX13_posts_3 rfl (lv_at hl 3 rfl) ?_
  obtain ⟨q1, c1, h⟩ := x_call h
  refine xCall (w2 := MW cA h0 s0) (xRunV (n := 3) (As := [.int a1, .int a2, .int a3]) (rest := []) ⟨hx, hb, hml, hown, hts⟩ (kX13_whyNoEntry l D cA h0 _ N a1 a2 a3 s0 q1 c1) qco_X13_whyNoEntry qml_X13_80 qin_X13_whyNoEntry qse_X13_whyNoEntry qini_X13 (by decide +kernel) (by rw [← erm]; rfl) hK hP hD [0, 1, 2, 3, 4, 5, 6, 7] rfl rfl (q0 := 0) rfl rfl rfl rfl rfl hl.1 rfl (lv_room (Nat.le_of_ble_eq_true rfl)) dX13_posts_4 ⟨Nat.zero_le _, Nat.zero_le _⟩) hP hD hS hA [0, 1, 2, 3, 4, 5, 6, 7] [] [0, 1, 2, 3, 4, 5, 6, 7] rfl (wr := []) rfl rfl rfl rfl rfl (fun H locs hP hD hS => ?_)
  refine lv_istore (lv' := [(4, .int q1), (0, .ref (h0 0)), (1, .int a1), (2, .int a2), (3, .int a3)]) hx hb dX13_posts_7 hl (by decide) rfl (fun ls hl => ?_)
  refine lv_iload hx hb dX13_posts_9 (lv_at hl 0 rfl) ?_
  obtain ⟨J35, eJ35, h⟩ := x_join h
  have hJ_J35 : ∀ (t0_2 : Int32) (s0_2 : MS) (H : Heap) (locs : List Loc), va_P D vwCl (MW cA h0 s0_2) H → va_D A (MW cA h0 s0_2) → va_S A s.heap H locs → ∀ ls : Array Slot, lv_has ls 5 [] → J35 t0_2 s0_2 = some q → W p l e rm s m ([.ref (h0 0), .int a1, .int a2, .int a3] : List Value).toArray below meth c H locs 0 0 (MQ below (xQ D cA A (MW cA h0 q.2) (some (.int q.1))) ([.ref (h0 0), .int a1, .int a2, .int a3] : List Value).toArray s 0 0 A) (F0 m 35 ls [.int t0_2]) := by
    clear h hP hD hS hl
    intro t0_2 s0_2 H locs hP hD hS ls hl h
    rw [eJ35] at h
    have h := Option.some.inj h
    subst h
    exact xIret hx hb hr hlocks hP hK hD hS dX13_posts_35
  refine lv_if_le (tgt := 23) hx hb dX13_posts_11 (by decide) (fun c3 => ?_) (fun c3 => ?_)
  · have h := x_t h c3
    refine lv_aload_n hx hb dX13_posts_23 rfl (lv_at hl 1 rfl) ?_
    refine lv_aload_n hx hb dX13_posts_24 rfl (lv_at hl 1 rfl) ?_
    refine lv_iload_n hx hb dX13_posts_25 rfl (lv_at hl 2 rfl) ?_
    refine lv_iload_n hx hb dX13_posts_26 rfl (lv_at hl 3 rfl) ?_
    refine lv_iload_n hx hb dX13_posts_27 rfl (lv_at hl 4 rfl) ?_
    refine lv_iconst (v := 0) hx hb dX13_posts_28 (by decide) ?_
    obtain ⟨q4, c4, h⟩ := x_call h
    refine xCall (w2 := MW cA h0 q4.2) (xRunV (n := 4) (As := [.int a1, .int a2, .int a3, .int 0]) (rest := [.ref (h0 0)]) ⟨hx, hb, hml, hown, hts⟩ (kX13_enters l D cA h0 _ N a1 a2 a3 0 s0 q4 c4) qco_X13_enters qml_X13_84 qin_X13_enters qse_X13_enters qini_X13 (by decide +kernel) (by rw [← erm]; rfl) hK hP hD [0, 1, 2, 3, 4, 5, 6, 7] rfl rfl (q0 := 0) rfl rfl rfl rfl rfl hl.1 rfl (lv_room (Nat.le_of_ble_eq_true rfl)) dX13_posts_29 ⟨Nat.zero_le _, Nat.zero_le _⟩) hP hD hS hA [0, 1, 2, 3, 4, 5, 6, 7] [] [0, 1, 2, 3, 4, 5, 6, 7] rfl (wr := []) rfl rfl rfl rfl rfl (fun H locs hP hD hS => ?_)
    obtain ⟨q5, c5, h⟩ := x_call h
    refine xCall (w2 := MW cA h0 q5.2) (xRunV (n := 1) (As := [.int q4.1]) (rest := []) ⟨hx, hb, hml, hown, hts⟩ (kX13_done l D cA h0 _ N q4.1 q4.2 q5 c5) qco_X13_done qml_X13_60 qin_X13_done qse_X13_done qini_X13 (by decide +kernel) (by rw [← erm]; rfl) hK hP hD [0, 1, 2, 3, 4, 5, 6, 7] rfl rfl (q0 := 0) rfl rfl rfl rfl rfl hl.1 rfl (lv_room (Nat.le_of_ble_eq_true rfl)) dX13_posts_32 ⟨Nat.zero_le _, Nat.zero_le _⟩) hP hD hS hA [0, 1, 2, 3, 4, 5, 6, 7] [] [0, 1, 2, 3, 4, 5, 6, 7] rfl (wr := []) rfl rfl rfl rfl rfl (fun H locs hP hD hS => ?_)
    exact hJ_J35 q5.1 q5.2 _ _ hP hD hS _ (lv_sub hl [] rfl) h
  · have h := x_f h c3
    refine lv_aload_n hx hb dX13_posts_14 rfl (lv_at hl 1 rfl) ?_
    refine lv_iload hx hb dX13_posts_15 (lv_at hl 0 rfl) ?_
    obtain ⟨q6, c6, h⟩ := x_call h
    refine xCall (w2 := MW cA h0 q6.2) (xRunV (n := 1) (As := [.int q1]) (rest := []) ⟨hx, hb, hml, hown, hts⟩ (kX13_fails l D cA h0 _ N q1 s0 q6 c6) qco_X13_fails qml_X13_57 qin_X13_fails qse_X13_fails qini_X13 (by decide +kernel) (by rw [← erm]; rfl) hK hP hD [0, 1, 2, 3, 4, 5, 6, 7] rfl rfl (q0 := 0) rfl rfl rfl rfl rfl hl.1 rfl (lv_room (Nat.le_of_ble_eq_true rfl)) dX13_posts_17 ⟨Nat.zero_le _, Nat.zero_le _⟩) hP hD hS hA [0, 1, 2, 3, 4, 5, 6, 7] [] [0, 1, 2, 3, 4, 5, 6, 7] rfl (wr := []) rfl rfl rfl rfl rfl (fun H locs hP hD hS => ?_)
    refine lv_goto (tgt := 35) hx hb dX13_posts_20 (by decide) ?_
    exact hJ_J35 q6.1 q6.2 _ _ hP hD hS _ (lv_sub hl [] rfl) h
def fX13_post (N : Nat) (a1 : Int32) (a2 : Int32) (a3 : Int32) (s0 : MS) : Option (Int32 × MS) :=
  xcall (fX13_begin N s0) fun q1 =>
  xcall (fX13_posts N a1 a2 a3 q1) fun q2 =>
  xcall (fX13_kept N q2.1 q2.2) fun q3 =>
  some (q3.1, q3.2)
set_option maxRecDepth 100000 in
set_option maxHeartbeats 4000000 in
theorem kX13_post (l : Launch) (D : va_G) (cA : Nat → ClassId) (h0 : Nat → Nat) (sz N : Nat) (a1 : Int32) (a2 : Int32) (a3 : Int32) (s0 : MS) (q : Int32 × MS) (h : fX13_post N a1 a2 a3 s0 = some q) : xM l yX13_post cX13_post 4 (some .int) ({ frames := 4, cells := 0, slots := 0, locals := 90 }) D cA (MW cA h0 s0) sz [.ref (h0 0), .int a1, .int a2, .int a3] (some (.int q.1)) (MW cA h0 q.2) := by
  generalize erm : ({ frames := 4, cells := 0, slots := 0, locals := 90 } : Room) = rm
  refine xMet (by decide) (Nat.le_of_ble_eq_true rfl) ?_
  intro p e s m below meth c hx hb hr hlocks hml hts hown hin hK hP A eA hD hS hA hsz ls hl
  have hl : lv_has ls 4 [(0, .ref (h0 0)), (1, .int a1), (2, .int a2), (3, .int a3)] := hl
  clear eA
  rw [fX13_post] at h
  refine lv_aload_n hx hb dX13_post_0 rfl (lv_at hl 0 rfl) ?_
  obtain ⟨q1, c1, h⟩ := x_call h
  refine xCall (w2 := MW cA h0 q1) (xRunV (n := 0) (As := []) (rest := []) ⟨hx, hb, hml, hown, hts⟩ (kX13_begin l D cA h0 _ N s0 q1 c1) qco_X13_begin qml_X13_63 qin_X13_begin qse_X13_begin qini_X13 (by decide +kernel) (by rw [← erm]; rfl) hK hP hD [0, 1, 2, 3, 4, 5, 6, 7] rfl rfl (q0 := 0) rfl rfl rfl rfl rfl hl.1 rfl (lv_room (Nat.le_of_ble_eq_true rfl)) dX13_post_1 ⟨Nat.zero_le _, Nat.zero_le _⟩) hP hD hS hA [0, 1, 2, 3, 4, 5, 6, 7] [] [0, 1, 2, 3, 4, 5, 6, 7] rfl (wr := []) rfl rfl rfl rfl rfl (fun H locs hP hD hS => ?_)
  refine lv_aload_n hx hb dX13_post_4 rfl (lv_at hl 0 rfl) ?_
  refine lv_aload_n hx hb dX13_post_5 rfl (lv_at hl 0 rfl) ?_
  refine lv_iload_n hx hb dX13_post_6 rfl (lv_at hl 1 rfl) ?_
  refine lv_iload_n hx hb dX13_post_7 rfl (lv_at hl 2 rfl) ?_
  refine lv_iload_n hx hb dX13_post_8 rfl (lv_at hl 3 rfl) ?_
  obtain ⟨q2, c2, h⟩ := x_call h
  refine xCall (w2 := MW cA h0 q2.2) (xRunV (n := 3) (As := [.int a1, .int a2, .int a3]) (rest := [.ref (h0 0)]) ⟨hx, hb, hml, hown, hts⟩ (kX13_posts l D cA h0 _ N a1 a2 a3 q1 q2 c2) qco_X13_posts qml_X13_88 qin_X13_posts qse_X13_posts qini_X13 (by decide +kernel) (by rw [← erm]; rfl) hK hP hD [0, 1, 2, 3, 4, 5, 6, 7] rfl rfl (q0 := 0) rfl rfl rfl rfl rfl hl.1 rfl (lv_room (Nat.le_of_ble_eq_true rfl)) dX13_post_9 ⟨Nat.zero_le _, Nat.zero_le _⟩) hP hD hS hA [0, 1, 2, 3, 4, 5, 6, 7] [] [0, 1, 2, 3, 4, 5, 6, 7] rfl (wr := []) rfl rfl rfl rfl rfl (fun H locs hP hD hS => ?_)
  obtain ⟨q3, c3, h⟩ := x_call h
  refine xCall (w2 := MW cA h0 q3.2) (xRunV (n := 1) (As := [.int q2.1]) (rest := []) ⟨hx, hb, hml, hown, hts⟩ (kX13_kept l D cA h0 _ N q2.1 q2.2 q3 c3) qco_X13_kept qml_X13_74 qin_X13_kept qse_X13_kept qini_X13 (by decide +kernel) (by rw [← erm]; rfl) hK hP hD [0, 1, 2, 3, 4, 5, 6, 7] rfl rfl (q0 := 0) rfl rfl rfl rfl rfl hl.1 rfl (lv_room (Nat.le_of_ble_eq_true rfl)) dX13_post_12 ⟨Nat.zero_le _, Nat.zero_le _⟩) hP hD hS hA [0, 1, 2, 3, 4, 5, 6, 7] [] [0, 1, 2, 3, 4, 5, 6, 7] rfl (wr := []) rfl rfl rfl rfl rfl (fun H locs hP hD hS => ?_)
  have h := Option.some.inj h
  subst h
  exact xIret hx hb hr hlocks hP hK hD hS dX13_post_15
def fX13_placeOf (N : Nat) (a1 : Int32) (s0 : MS) : Option (Int32) :=
  xlet ((s0.1 3) - (s0.1 2)) fun x1 =>
  xcall (fX13_in N a1 x1 ((s0.1 3) - 1)) fun q2 =>
  xjoin (fun (t0_3 : Int32) =>
      some t0_3
    ) fun J37 =>
  if q2 = 0 then
    J37 (-1)
  else
    J37 (a1 - x1)
set_option maxRecDepth 100000 in
set_option maxHeartbeats 4000000 in
theorem kX13_placeOf (l : Launch) (D : va_G) (cA : Nat → ClassId) (h0 : Nat → Nat) (sz N : Nat) (a1 : Int32) (s0 : MS) (q : Int32) (h : fX13_placeOf N a1 s0 = some q) : xM l yX13_placeOf cX13_placeOf 3 (some .int) ({ frames := 1, cells := 0, slots := 0, locals := 22 }) D cA (MW cA h0 s0) sz [.ref (h0 0), .int a1] (some (.int q)) (MW cA h0 s0) := by
  generalize erm : ({ frames := 1, cells := 0, slots := 0, locals := 22 } : Room) = rm
  refine xMet (by decide) (Nat.le_of_ble_eq_true rfl) ?_
  intro p e s m below meth c hx hb hr hlocks hml hts hown hin hK hP A eA hD hS hA hsz ls hl
  have hl : lv_has ls 3 [(0, .ref (h0 0)), (1, .int a1)] := hl
  clear eA
  rw [fX13_placeOf] at h
  refine lv_aload_n hx hb dX13_placeOf_0 rfl (lv_at hl 0 rfl) ?_
  refine va_get (D := D) (ci := 12) (v := .ref (h0 1)) (C := RX13) (T := TX13) (N := 16) hx hb hts iX13 hown hK hP 0 rfl rfl 0 (by decide) (hts _ qfl_X13_7) (fun _ h9 => h9) rfl dX13_placeOf_1 ?_
  refine lv_iconst (v := 3) hx hb dX13_placeOf_4 (by decide) ?_
  refine xIald hx hb hK hP 1 0 rfl rfl (x_lit (k := 3) (by decide)) dX13_placeOf_5 ?_
  refine lv_aload_n hx hb dX13_placeOf_6 rfl (lv_at hl 0 rfl) ?_
  refine va_get (D := D) (ci := 12) (v := .ref (h0 1)) (C := RX13) (T := TX13) (N := 16) hx hb hts iX13 hown hK hP 0 rfl rfl 0 (by decide) (hts _ qfl_X13_7) (fun _ h9 => h9) rfl dX13_placeOf_7 ?_
  refine lv_iconst (v := 2) hx hb dX13_placeOf_10 (by decide) ?_
  refine xIald hx hb hK hP 1 0 rfl rfl (x_lit (k := 2) (by decide)) dX13_placeOf_11 ?_
  refine lv_isub hx hb dX13_placeOf_12 ?_
  refine lv_topi (fun x1 ex1 => ?_)
  have h := x_let h ex1
  refine lv_istore_n (lv' := [(2, .int x1), (0, .ref (h0 0)), (1, .int a1)]) hx hb dX13_placeOf_13 rfl hl (by decide) rfl (fun ls hl => ?_)
  refine lv_iload_n hx hb dX13_placeOf_14 rfl (lv_at hl 2 rfl) ?_
  refine lv_iload_n hx hb dX13_placeOf_15 rfl (lv_at hl 0 rfl) ?_
  refine lv_aload_n hx hb dX13_placeOf_16 rfl (lv_at hl 1 rfl) ?_
  refine va_get (D := D) (ci := 12) (v := .ref (h0 1)) (C := RX13) (T := TX13) (N := 16) hx hb hts iX13 hown hK hP 0 rfl rfl 0 (by decide) (hts _ qfl_X13_7) (fun _ h9 => h9) rfl dX13_placeOf_17 ?_
  refine lv_iconst (v := 3) hx hb dX13_placeOf_20 (by decide) ?_
  refine xIald hx hb hK hP 1 0 rfl rfl (x_lit (k := 3) (by decide)) dX13_placeOf_21 ?_
  refine lv_iconst (v := 1) hx hb dX13_placeOf_22 (by decide) ?_
  refine lv_isub hx hb dX13_placeOf_23 ?_
  obtain ⟨q2, c2, h⟩ := x_call h
  refine xCall (w2 := MW cA h0 s0) (xRunS (n := 3) (As := [.int a1, .int x1, .int ((s0.1 3) - 1)]) (rest := []) ⟨hx, hb, hml, hown, hts⟩ (kX13_in l D cA  _ N a1 x1 ((s0.1 3) - 1) q2 c2) qco_X13_in qml_X13_49 qst_X13_in qini_X13 (by decide +kernel) (by rw [← erm]; rfl) hK hP hD [] rfl rfl rfl rfl hl.1 rfl (lv_room (Nat.le_of_ble_eq_true rfl)) dX13_placeOf_24 ⟨Nat.zero_le _, Nat.zero_le _⟩) hP hD hS hA [] [0, 1, 2, 3, 4, 5, 6, 7] [0, 1, 2, 3, 4, 5, 6, 7] rfl (wr := [(h0 0, .inr (12, [.ref (h0 1), .ref (h0 2), .ref (h0 3), .int (s0.2.2.2.1), .ref (h0 4), .int (s0.2.2.2.2.2.1), .ref (h0 5), .int (s0.2.2.2.2.2.2.2.1), .int (s0.2.2.2.2.2.2.2.2.1), .int (s0.2.2.2.2.2.2.2.2.2.1), .ref (h0 6), .int (s0.2.2.2.2.2.2.2.2.2.2.2.1), .int (s0.2.2.2.2.2.2.2.2.2.2.2.2.1), .int (s0.2.2.2.2.2.2.2.2.2.2.2.2.2.1), .int (s0.2.2.2.2.2.2.2.2.2.2.2.2.2.2.1), .ref (h0 7)])), (h0 1, .inl (cA 0, 229, .inl (s0.1))), (h0 2, .inl (cA 0, 229, .inl (s0.2.1))), (h0 3, .inl (cA 0, 1832, .inl (s0.2.2.1))), (h0 4, .inl (cA 0, 229, .inl (s0.2.2.2.2.1))), (h0 5, .inl (cA 1, 60, .inl (s0.2.2.2.2.2.2.1))), (h0 6, .inl (cA 1, 60, .inl (s0.2.2.2.2.2.2.2.2.2.2.1))), (h0 7, .inl (cA 0, 240, .inl (s0.2.2.2.2.2.2.2.2.2.2.2.2.2.2.2)))]) rfl rfl rfl rfl rfl (fun H locs hP hD hS => ?_)
  obtain ⟨J37, eJ37, h⟩ := x_join h
  have hJ_J37 : ∀ (t0_3 : Int32) (H : Heap) (locs : List Loc), va_P D vwCl (MW cA h0 s0) H → va_D A (MW cA h0 s0) → va_S A s.heap H locs → ∀ ls : Array Slot, lv_has ls 3 [] → J37 t0_3 = some q → W p l e rm s m ([.ref (h0 0), .int a1] : List Value).toArray below meth c H locs 0 0 (MQ below (xQ D cA A (MW cA h0 s0) (some (.int q))) ([.ref (h0 0), .int a1] : List Value).toArray s 0 0 A) (F0 m 37 ls [.int t0_3]) := by
    clear h hP hD hS hl
    intro t0_3 H locs hP hD hS ls hl h
    rw [eJ37] at h
    have h := Option.some.inj h
    subst h
    exact xIret hx hb hr hlocks hP hK hD hS dX13_placeOf_37
  refine lv_if_eq (tgt := 36) hx hb dX13_placeOf_27 (by decide) (fun c4 => ?_) (fun c4 => ?_)
  · have h := x_t h c4
    refine lv_iconst (v := (-1)) hx hb dX13_placeOf_36 (by decide) ?_
    exact hJ_J37 (-1) _ _ hP hD hS _ (lv_sub hl [] rfl) h
  · have h := x_f h c4
    refine lv_iload_n hx hb dX13_placeOf_30 rfl (lv_at hl 2 rfl) ?_
    refine lv_iload_n hx hb dX13_placeOf_31 rfl (lv_at hl 0 rfl) ?_
    refine lv_isub hx hb dX13_placeOf_32 ?_
    refine lv_goto (tgt := 37) hx hb dX13_placeOf_33 (by decide) ?_
    exact hJ_J37 (a1 - x1) _ _ hP hD hS _ (lv_sub hl [] rfl) h
def fX13_reverses (N : Nat) (a1 : Int32) (s0 : MS) : Option (Int32 × MS) :=
  xcall (fX13_placeOf N a1 s0) fun q1 =>
  if q1 = (-1) then
    xcall (fX13_fails N 1 s0) fun q13 =>
    some (q13.1, q13.2)
  else
    xrd 229 (137 + q1) fun k3 =>
    if (s0.1 k3) = 0 then
      xrd 229 (137 + q1) fun k5 =>
      xlet (upd s0.1 k5 1) fun g6 =>
      xrd 229 (77 + q1) fun k7 =>
      xrd 229 (57 + q1) fun k8 =>
      xrd 229 (97 + q1) fun k9 =>
      xcall (fX13_enters N (g6 k7) (g6 k8) (g6 k9) 2 ((Ms0 s0 g6))) fun q10 =>
      xcall (fX13_done N q10.1 q10.2) fun q11 =>
      some (q11.1, q11.2)
    else
      xcall (fX13_fails N 2 s0) fun q12 =>
      some (q12.1, q12.2)
set_option maxRecDepth 100000 in
set_option maxHeartbeats 4000000 in
theorem kX13_reverses (l : Launch) (D : va_G) (cA : Nat → ClassId) (h0 : Nat → Nat) (sz N : Nat) (a1 : Int32) (s0 : MS) (q : Int32 × MS) (h : fX13_reverses N a1 s0 = some q) : xM l yX13_reverses cX13_reverses 3 (some .int) ({ frames := 2, cells := 0, slots := 0, locals := 44 }) D cA (MW cA h0 s0) sz [.ref (h0 0), .int a1] (some (.int q.1)) (MW cA h0 q.2) := by
  generalize erm : ({ frames := 2, cells := 0, slots := 0, locals := 44 } : Room) = rm
  refine xMet (by decide) (Nat.le_of_ble_eq_true rfl) ?_
  intro p e s m below meth c hx hb hr hlocks hml hts hown hin hK hP A eA hD hS hA hsz ls hl
  have hl : lv_has ls 3 [(0, .ref (h0 0)), (1, .int a1)] := hl
  clear eA
  rw [fX13_reverses] at h
  refine lv_aload_n hx hb dX13_reverses_0 rfl (lv_at hl 0 rfl) ?_
  refine lv_iload_n hx hb dX13_reverses_1 rfl (lv_at hl 1 rfl) ?_
  obtain ⟨q1, c1, h⟩ := x_call h
  refine xCall (w2 := MW cA h0 s0) (xRunV (n := 1) (As := [.int a1]) (rest := []) ⟨hx, hb, hml, hown, hts⟩ (kX13_placeOf l D cA h0 _ N a1 s0 q1 c1) qco_X13_placeOf qml_X13_91 qin_X13_placeOf qse_X13_placeOf qini_X13 (by decide +kernel) (by rw [← erm]; rfl) hK hP hD [0, 1, 2, 3, 4, 5, 6, 7] rfl rfl (q0 := 0) rfl rfl rfl rfl rfl hl.1 rfl (lv_room (Nat.le_of_ble_eq_true rfl)) dX13_reverses_2 ⟨Nat.zero_le _, Nat.zero_le _⟩) hP hD hS hA [0, 1, 2, 3, 4, 5, 6, 7] [] [0, 1, 2, 3, 4, 5, 6, 7] rfl (wr := []) rfl rfl rfl rfl rfl (fun H locs hP hD hS => ?_)
  refine lv_istore_n (lv' := [(2, .int q1), (0, .ref (h0 0)), (1, .int a1)]) hx hb dX13_reverses_5 rfl hl (by decide) rfl (fun ls hl => ?_)
  refine lv_iload_n hx hb dX13_reverses_6 rfl (lv_at hl 0 rfl) ?_
  refine lv_iconst (v := (-1)) hx hb dX13_reverses_7 (by decide) ?_
  refine lv_icmp_ne (tgt := 17) hx hb dX13_reverses_8 (by decide) (fun c2 => ?_) (fun c2 => ?_)
  · have h := x_f h c2
    refine lv_aload_n hx hb dX13_reverses_17 rfl (lv_at hl 1 rfl) ?_
    refine va_get (D := D) (ci := 12) (v := .ref (h0 1)) (C := RX13) (T := TX13) (N := 16) hx hb hts iX13 hown hK hP 0 rfl rfl 0 (by decide) (hts _ qfl_X13_7) (fun _ h9 => h9) rfl dX13_reverses_18 ?_
    refine lv_sipush (v := 137) hx hb dX13_reverses_21 (by decide) ?_
    refine lv_iload_n hx hb dX13_reverses_24 rfl (lv_at hl 0 rfl) ?_
    refine lv_iadd hx hb dX13_reverses_25 ?_
    obtain ⟨k3, hk3, h⟩ := x_rd h
    refine xIald hx hb hK hP 1 0 rfl rfl hk3 dX13_reverses_26 ?_
    refine lv_if_eq (tgt := 36) hx hb dX13_reverses_27 (by decide) (fun c4 => ?_) (fun c4 => ?_)
    · have h := x_t h c4
      refine lv_aload_n hx hb dX13_reverses_36 rfl (lv_at hl 1 rfl) ?_
      refine va_get (D := D) (ci := 12) (v := .ref (h0 1)) (C := RX13) (T := TX13) (N := 16) hx hb hts iX13 hown hK hP 0 rfl rfl 0 (by decide) (hts _ qfl_X13_7) (fun _ h9 => h9) rfl dX13_reverses_37 ?_
      refine lv_sipush (v := 137) hx hb dX13_reverses_40 (by decide) ?_
      refine lv_iload_n hx hb dX13_reverses_43 rfl (lv_at hl 0 rfl) ?_
      refine lv_iadd hx hb dX13_reverses_44 ?_
      refine lv_iconst (v := 1) hx hb dX13_reverses_45 (by decide) ?_
      obtain ⟨k5, hk5, h⟩ := x_rd h
      refine xIast (w2 := fun zz => MW cA h0 ((Ms0 s0 zz))) hx hb hK hP hD hS 1 0 rfl rfl hk5 (fun _ => rfl) dX13_reverses_46 (fun g6 eg6 H locs hP hD hS => ?_)
      have h := x_let h eg6
      have hP : va_P D vwCl (MW cA h0 ((Ms0 s0 g6))) H := hP
      have hD : va_D A (MW cA h0 ((Ms0 s0 g6))) := hD
      refine lv_aload_n hx hb dX13_reverses_47 rfl (lv_at hl 1 rfl) ?_
      refine lv_aload_n hx hb dX13_reverses_48 rfl (lv_at hl 1 rfl) ?_
      refine lv_aload_n hx hb dX13_reverses_49 rfl (lv_at hl 1 rfl) ?_
      refine va_get (D := D) (ci := 12) (v := .ref (h0 1)) (C := RX13) (T := TX13) (N := 16) hx hb hts iX13 hown hK hP 0 rfl rfl 0 (by decide) (hts _ qfl_X13_7) (fun _ h9 => h9) rfl dX13_reverses_50 ?_
      refine lv_bipush (v := 77) hx hb dX13_reverses_53 (by decide) ?_
      refine lv_iload_n hx hb dX13_reverses_55 rfl (lv_at hl 0 rfl) ?_
      refine lv_iadd hx hb dX13_reverses_56 ?_
      obtain ⟨k7, hk7, h⟩ := x_rd h
      refine xIald hx hb hK hP 1 0 rfl rfl hk7 dX13_reverses_57 ?_
      refine lv_aload_n hx hb dX13_reverses_58 rfl (lv_at hl 1 rfl) ?_
      refine va_get (D := D) (ci := 12) (v := .ref (h0 1)) (C := RX13) (T := TX13) (N := 16) hx hb hts iX13 hown hK hP 0 rfl rfl 0 (by decide) (hts _ qfl_X13_7) (fun _ h9 => h9) rfl dX13_reverses_59 ?_
      refine lv_bipush (v := 57) hx hb dX13_reverses_62 (by decide) ?_
      refine lv_iload_n hx hb dX13_reverses_64 rfl (lv_at hl 0 rfl) ?_
      refine lv_iadd hx hb dX13_reverses_65 ?_
      obtain ⟨k8, hk8, h⟩ := x_rd h
      refine xIald hx hb hK hP 1 0 rfl rfl hk8 dX13_reverses_66 ?_
      refine lv_aload_n hx hb dX13_reverses_67 rfl (lv_at hl 1 rfl) ?_
      refine va_get (D := D) (ci := 12) (v := .ref (h0 1)) (C := RX13) (T := TX13) (N := 16) hx hb hts iX13 hown hK hP 0 rfl rfl 0 (by decide) (hts _ qfl_X13_7) (fun _ h9 => h9) rfl dX13_reverses_68 ?_
      refine lv_bipush (v := 97) hx hb dX13_reverses_71 (by decide) ?_
      refine lv_iload_n hx hb dX13_reverses_73 rfl (lv_at hl 0 rfl) ?_
      refine lv_iadd hx hb dX13_reverses_74 ?_
      obtain ⟨k9, hk9, h⟩ := x_rd h
      refine xIald hx hb hK hP 1 0 rfl rfl hk9 dX13_reverses_75 ?_
      refine lv_iconst (v := 2) hx hb dX13_reverses_76 (by decide) ?_
      obtain ⟨q10, c10, h⟩ := x_call h
      refine xCall (w2 := MW cA h0 q10.2) (xRunV (n := 4) (As := [.int (g6 k7), .int (g6 k8), .int (g6 k9), .int 2]) (rest := [.ref (h0 0)]) ⟨hx, hb, hml, hown, hts⟩ (kX13_enters l D cA h0 _ N (g6 k7) (g6 k8) (g6 k9) 2 ((Ms0 s0 g6)) q10 c10) qco_X13_enters qml_X13_84 qin_X13_enters qse_X13_enters qini_X13 (by decide +kernel) (by rw [← erm]; rfl) hK hP hD [0, 1, 2, 3, 4, 5, 6, 7] rfl rfl (q0 := 0) rfl rfl rfl rfl rfl hl.1 rfl (lv_room (Nat.le_of_ble_eq_true rfl)) dX13_reverses_77 ⟨Nat.zero_le _, Nat.zero_le _⟩) hP hD hS hA [0, 1, 2, 3, 4, 5, 6, 7] [] [0, 1, 2, 3, 4, 5, 6, 7] rfl (wr := []) rfl rfl rfl rfl rfl (fun H locs hP hD hS => ?_)
      obtain ⟨q11, c11, h⟩ := x_call h
      refine xCall (w2 := MW cA h0 q11.2) (xRunV (n := 1) (As := [.int q10.1]) (rest := []) ⟨hx, hb, hml, hown, hts⟩ (kX13_done l D cA h0 _ N q10.1 q10.2 q11 c11) qco_X13_done qml_X13_60 qin_X13_done qse_X13_done qini_X13 (by decide +kernel) (by rw [← erm]; rfl) hK hP hD [0, 1, 2, 3, 4, 5, 6, 7] rfl rfl (q0 := 0) rfl rfl rfl rfl rfl hl.1 rfl (lv_room (Nat.le_of_ble_eq_true rfl)) dX13_reverses_80 ⟨Nat.zero_le _, Nat.zero_le _⟩) hP hD hS hA [0, 1, 2, 3, 4, 5, 6, 7] [] [0, 1, 2, 3, 4, 5, 6, 7] rfl (wr := []) rfl rfl rfl rfl rfl (fun H locs hP hD hS => ?_)
      have h := Option.some.inj h
      subst h
      exact xIret hx hb hr hlocks hP hK hD hS dX13_reverses_83
    · have h := x_f h c4
      refine lv_aload_n hx hb dX13_reverses_30 rfl (lv_at hl 1 rfl) ?_
      refine lv_iconst (v := 2) hx hb dX13_reverses_31 (by decide) ?_
      obtain ⟨q12, c12, h⟩ := x_call h
      refine xCall (w2 := MW cA h0 q12.2) (xRunV (n := 1) (As := [.int 2]) (rest := []) ⟨hx, hb, hml, hown, hts⟩ (kX13_fails l D cA h0 _ N 2 s0 q12 c12) qco_X13_fails qml_X13_57 qin_X13_fails qse_X13_fails qini_X13 (by decide +kernel) (by rw [← erm]; rfl) hK hP hD [0, 1, 2, 3, 4, 5, 6, 7] rfl rfl (q0 := 0) rfl rfl rfl rfl rfl hl.1 rfl (lv_room (Nat.le_of_ble_eq_true rfl)) dX13_reverses_32 ⟨Nat.zero_le _, Nat.zero_le _⟩) hP hD hS hA [0, 1, 2, 3, 4, 5, 6, 7] [] [0, 1, 2, 3, 4, 5, 6, 7] rfl (wr := []) rfl rfl rfl rfl rfl (fun H locs hP hD hS => ?_)
      have h := Option.some.inj h
      subst h
      exact xIret hx hb hr hlocks hP hK hD hS dX13_reverses_35
  · have h := x_t h c2
    refine lv_aload_n hx hb dX13_reverses_11 rfl (lv_at hl 1 rfl) ?_
    refine lv_iconst (v := 1) hx hb dX13_reverses_12 (by decide) ?_
    obtain ⟨q13, c13, h⟩ := x_call h
    refine xCall (w2 := MW cA h0 q13.2) (xRunV (n := 1) (As := [.int 1]) (rest := []) ⟨hx, hb, hml, hown, hts⟩ (kX13_fails l D cA h0 _ N 1 s0 q13 c13) qco_X13_fails qml_X13_57 qin_X13_fails qse_X13_fails qini_X13 (by decide +kernel) (by rw [← erm]; rfl) hK hP hD [0, 1, 2, 3, 4, 5, 6, 7] rfl rfl (q0 := 0) rfl rfl rfl rfl rfl hl.1 rfl (lv_room (Nat.le_of_ble_eq_true rfl)) dX13_reverses_13 ⟨Nat.zero_le _, Nat.zero_le _⟩) hP hD hS hA [0, 1, 2, 3, 4, 5, 6, 7] [] [0, 1, 2, 3, 4, 5, 6, 7] rfl (wr := []) rfl rfl rfl rfl rfl (fun H locs hP hD hS => ?_)
    have h := Option.some.inj h
    subst h
    exact xIret hx hb hr hlocks hP hK hD hS dX13_reverses_16
def fX13_reverse (N : Nat) (a1 : Int32) (s0 : MS) : Option (Int32 × MS) :=
  xcall (fX13_begin N s0) fun q1 =>
  xcall (fX13_reverses N a1 q1) fun q2 =>
  xcall (fX13_kept N q2.1 q2.2) fun q3 =>
  some (q3.1, q3.2)
set_option maxRecDepth 100000 in
set_option maxHeartbeats 4000000 in
theorem kX13_reverse (l : Launch) (D : va_G) (cA : Nat → ClassId) (h0 : Nat → Nat) (sz N : Nat) (a1 : Int32) (s0 : MS) (q : Int32 × MS) (h : fX13_reverse N a1 s0 = some q) : xM l yX13_reverse cX13_reverse 2 (some .int) ({ frames := 3, cells := 0, slots := 0, locals := 66 }) D cA (MW cA h0 s0) sz [.ref (h0 0), .int a1] (some (.int q.1)) (MW cA h0 q.2) := by
  generalize erm : ({ frames := 3, cells := 0, slots := 0, locals := 66 } : Room) = rm
  refine xMet (by decide) (Nat.le_of_ble_eq_true rfl) ?_
  intro p e s m below meth c hx hb hr hlocks hml hts hown hin hK hP A eA hD hS hA hsz ls hl
  have hl : lv_has ls 2 [(0, .ref (h0 0)), (1, .int a1)] := hl
  clear eA
  rw [fX13_reverse] at h
  refine lv_aload_n hx hb dX13_reverse_0 rfl (lv_at hl 0 rfl) ?_
  obtain ⟨q1, c1, h⟩ := x_call h
  refine xCall (w2 := MW cA h0 q1) (xRunV (n := 0) (As := []) (rest := []) ⟨hx, hb, hml, hown, hts⟩ (kX13_begin l D cA h0 _ N s0 q1 c1) qco_X13_begin qml_X13_63 qin_X13_begin qse_X13_begin qini_X13 (by decide +kernel) (by rw [← erm]; rfl) hK hP hD [0, 1, 2, 3, 4, 5, 6, 7] rfl rfl (q0 := 0) rfl rfl rfl rfl rfl hl.1 rfl (lv_room (Nat.le_of_ble_eq_true rfl)) dX13_reverse_1 ⟨Nat.zero_le _, Nat.zero_le _⟩) hP hD hS hA [0, 1, 2, 3, 4, 5, 6, 7] [] [0, 1, 2, 3, 4, 5, 6, 7] rfl (wr := []) rfl rfl rfl rfl rfl (fun H locs hP hD hS => ?_)
  refine lv_aload_n hx hb dX13_reverse_4 rfl (lv_at hl 0 rfl) ?_
  refine lv_aload_n hx hb dX13_reverse_5 rfl (lv_at hl 0 rfl) ?_
  refine lv_iload_n hx hb dX13_reverse_6 rfl (lv_at hl 1 rfl) ?_
  obtain ⟨q2, c2, h⟩ := x_call h
  refine xCall (w2 := MW cA h0 q2.2) (xRunV (n := 1) (As := [.int a1]) (rest := [.ref (h0 0)]) ⟨hx, hb, hml, hown, hts⟩ (kX13_reverses l D cA h0 _ N a1 q1 q2 c2) qco_X13_reverses qml_X13_94 qin_X13_reverses qse_X13_reverses qini_X13 (by decide +kernel) (by rw [← erm]; rfl) hK hP hD [0, 1, 2, 3, 4, 5, 6, 7] rfl rfl (q0 := 0) rfl rfl rfl rfl rfl hl.1 rfl (lv_room (Nat.le_of_ble_eq_true rfl)) dX13_reverse_7 ⟨Nat.zero_le _, Nat.zero_le _⟩) hP hD hS hA [0, 1, 2, 3, 4, 5, 6, 7] [] [0, 1, 2, 3, 4, 5, 6, 7] rfl (wr := []) rfl rfl rfl rfl rfl (fun H locs hP hD hS => ?_)
  obtain ⟨q3, c3, h⟩ := x_call h
  refine xCall (w2 := MW cA h0 q3.2) (xRunV (n := 1) (As := [.int q2.1]) (rest := []) ⟨hx, hb, hml, hown, hts⟩ (kX13_kept l D cA h0 _ N q2.1 q2.2 q3 c3) qco_X13_kept qml_X13_74 qin_X13_kept qse_X13_kept qini_X13 (by decide +kernel) (by rw [← erm]; rfl) hK hP hD [0, 1, 2, 3, 4, 5, 6, 7] rfl rfl (q0 := 0) rfl rfl rfl rfl rfl hl.1 rfl (lv_room (Nat.le_of_ble_eq_true rfl)) dX13_reverse_10 ⟨Nat.zero_le _, Nat.zero_le _⟩) hP hD hS hA [0, 1, 2, 3, 4, 5, 6, 7] [] [0, 1, 2, 3, 4, 5, 6, 7] rfl (wr := []) rfl rfl rfl rfl rfl (fun H locs hP hD hS => ?_)
  have h := Option.some.inj h
  subst h
  exact xIret hx hb hr hlocks hP hK hD hS dX13_reverse_13
def fX13_prompts (N : Nat) (a1 : Int32) (a2 : Int32) (a3 : Int32) (a4 : Int32) (a5 : Int32) (s0 : MS) : Option (Int32 × MS) :=
  xcall (fX13_whyNoEntry N a1 a2 a3 s0) fun q1 =>
  if q1 ≤ 0 then
    xcall (fX13_in N a4 1 12) fun q3 =>
    xjoin (fun (s0_4 : MS) =>
        xcall (fX13_fails N 2 s0_4) fun q5 =>
        some (q5.1, q5.2)
      ) fun J43 =>
    if q3 = 0 then
      J43 s0
    else
      xcall (fX13_in N a5 1 9) fun q7 =>
      if q7 = 0 then
        J43 s0
      else
        xlet (s0.1 4) fun x9 =>
        if x9 = 6 then
          xcall (fX13_fails N 3 s0) fun q25 =>
          some (q25.1, q25.2)
        else
          xrd 229 (157 + x9) fun k11 =>
          xlet (upd s0.1 k11 a1) fun g12 =>
          xrd 229 (163 + x9) fun k13 =>
          xlet (upd g12 k13 a2) fun g14 =>
          xrd 229 (169 + x9) fun k15 =>
          xlet (upd g14 k15 a3) fun g16 =>
          xrd 229 (175 + x9) fun k17 =>
          xlet (upd g16 k17 a4) fun g18 =>
          xrd 229 (181 + x9) fun k19 =>
          xlet (upd g18 k19 a5) fun g20 =>
          xrd 229 (187 + x9) fun k21 =>
          xlet (upd g20 k21 (g20 0)) fun g22 =>
          xlet (upd g22 4 ((g22 4) + 1)) fun g23 =>
          xcall (fX13_done N x9 ((Ms0 s0 g23))) fun q24 =>
          some (q24.1, q24.2)
  else
    xcall (fX13_fails N q1 s0) fun q26 =>
    some (q26.1, q26.2)
set_option maxRecDepth 100000 in
set_option maxHeartbeats 4000000 in
theorem kX13_prompts (l : Launch) (D : va_G) (cA : Nat → ClassId) (h0 : Nat → Nat) (sz N : Nat) (a1 : Int32) (a2 : Int32) (a3 : Int32) (a4 : Int32) (a5 : Int32) (s0 : MS) (q : Int32 × MS) (h : fX13_prompts N a1 a2 a3 a4 a5 s0 = some q) : xM l yX13_prompts cX13_prompts 8 (some .int) ({ frames := 3, cells := 0, slots := 0, locals := 66 }) D cA (MW cA h0 s0) sz [.ref (h0 0), .int a1, .int a2, .int a3, .int a4, .int a5] (some (.int q.1)) (MW cA h0 q.2) := by
  generalize erm : ({ frames := 3, cells := 0, slots := 0, locals := 66 } : Room) = rm
  refine xMet (by decide) (Nat.le_of_ble_eq_true rfl) ?_
  intro p e s m below meth c hx hb hr hlocks hml hts hown hin hK hP A eA hD hS hA hsz ls hl
  have hl : lv_has ls 8 [(0, .ref (h0 0)), (1, .int a1), (2, .int a2), (3, .int a3), (4, .int a4), (5, .int a5)] := hl
  clear eA
  rw [fX13_prompts] at h
  refine lv_aload_n hx hb dX13_prompts_0 rfl (lv_at hl 0 rfl) ?_
  refine lv_iload_n hx hb dX13_prompts_1 rfl (lv_at hl 1 rfl) ?_
  refine lv_iload_n hx hb dX13_prompts_2 rfl (lv_at hl 2 rfl) ?_
  refine lv_iload_n hx hb dX13_prompts_3 rfl (lv_at hl 3 rfl) ?_
  obtain ⟨q1, c1, h⟩ := x_call h
  refine xCall (w2 := MW cA h0 s0) (xRunV (n := 3) (As := [.int a1, .int a2, .int a3]) (rest := []) ⟨hx, hb, hml, hown, hts⟩ (kX13_whyNoEntry l D cA h0 _ N a1 a2 a3 s0 q1 c1) qco_X13_whyNoEntry qml_X13_80 qin_X13_whyNoEntry qse_X13_whyNoEntry qini_X13 (by decide +kernel) (by rw [← erm]; rfl) hK hP hD [0, 1, 2, 3, 4, 5, 6, 7] rfl rfl (q0 := 0) rfl rfl rfl rfl rfl hl.1 rfl (lv_room (Nat.le_of_ble_eq_true rfl)) dX13_prompts_4 ⟨Nat.zero_le _, Nat.zero_le _⟩) hP hD hS hA [0, 1, 2, 3, 4, 5, 6, 7] [] [0, 1, 2, 3, 4, 5, 6, 7] rfl (wr := []) rfl rfl rfl rfl rfl (fun H locs hP hD hS => ?_)
  refine lv_istore (lv' := [(6, .int q1), (0, .ref (h0 0)), (1, .int a1), (2, .int a2), (3, .int a3), (4, .int a4), (5, .int a5)]) hx hb dX13_prompts_7 hl (by decide) rfl (fun ls hl => ?_)
  refine lv_iload hx hb dX13_prompts_9 (lv_at hl 0 rfl) ?_
  refine lv_if_le (tgt := 21) hx hb dX13_prompts_11 (by decide) (fun c2 => ?_) (fun c2 => ?_)
  · have h := x_t h c2
    refine lv_iload hx hb dX13_prompts_21 (lv_at hl 5 rfl) ?_
    refine lv_iconst (v := 1) hx hb dX13_prompts_23 (by decide) ?_
    refine lv_bipush (v := 12) hx hb dX13_prompts_24 (by decide) ?_
    obtain ⟨q3, c3, h⟩ := x_call h
    refine xCall (w2 := MW cA h0 s0) (xRunS (n := 3) (As := [.int a4, .int 1, .int 12]) (rest := []) ⟨hx, hb, hml, hown, hts⟩ (kX13_in l D cA  _ N a4 1 12 q3 c3) qco_X13_in qml_X13_49 qst_X13_in qini_X13 (by decide +kernel) (by rw [← erm]; rfl) hK hP hD [] rfl rfl rfl rfl hl.1 rfl (lv_room (Nat.le_of_ble_eq_true rfl)) dX13_prompts_26 ⟨Nat.zero_le _, Nat.zero_le _⟩) hP hD hS hA [] [0, 1, 2, 3, 4, 5, 6, 7] [0, 1, 2, 3, 4, 5, 6, 7] rfl (wr := [(h0 0, .inr (12, [.ref (h0 1), .ref (h0 2), .ref (h0 3), .int (s0.2.2.2.1), .ref (h0 4), .int (s0.2.2.2.2.2.1), .ref (h0 5), .int (s0.2.2.2.2.2.2.2.1), .int (s0.2.2.2.2.2.2.2.2.1), .int (s0.2.2.2.2.2.2.2.2.2.1), .ref (h0 6), .int (s0.2.2.2.2.2.2.2.2.2.2.2.1), .int (s0.2.2.2.2.2.2.2.2.2.2.2.2.1), .int (s0.2.2.2.2.2.2.2.2.2.2.2.2.2.1), .int (s0.2.2.2.2.2.2.2.2.2.2.2.2.2.2.1), .ref (h0 7)])), (h0 1, .inl (cA 0, 229, .inl (s0.1))), (h0 2, .inl (cA 0, 229, .inl (s0.2.1))), (h0 3, .inl (cA 0, 1832, .inl (s0.2.2.1))), (h0 4, .inl (cA 0, 229, .inl (s0.2.2.2.2.1))), (h0 5, .inl (cA 1, 60, .inl (s0.2.2.2.2.2.2.1))), (h0 6, .inl (cA 1, 60, .inl (s0.2.2.2.2.2.2.2.2.2.2.1))), (h0 7, .inl (cA 0, 240, .inl (s0.2.2.2.2.2.2.2.2.2.2.2.2.2.2.2)))]) rfl rfl rfl rfl rfl (fun H locs hP hD hS => ?_)
    obtain ⟨J43, eJ43, h⟩ := x_join h
    have hJ_J43 : ∀ (s0_4 : MS) (H : Heap) (locs : List Loc), va_P D vwCl (MW cA h0 s0_4) H → va_D A (MW cA h0 s0_4) → va_S A s.heap H locs → ∀ ls : Array Slot, lv_has ls 8 [(0, .ref (h0 0))] → J43 s0_4 = some q → W p l e rm s m ([.ref (h0 0), .int a1, .int a2, .int a3, .int a4, .int a5] : List Value).toArray below meth c H locs 0 0 (MQ below (xQ D cA A (MW cA h0 q.2) (some (.int q.1))) ([.ref (h0 0), .int a1, .int a2, .int a3, .int a4, .int a5] : List Value).toArray s 0 0 A) (F0 m 43 ls []) := by
      clear h hP hD hS hl
      intro s0_4 H locs hP hD hS ls hl h
      rw [eJ43] at h
      refine lv_aload_n hx hb dX13_prompts_43 rfl (lv_at hl 0 rfl) ?_
      refine lv_iconst (v := 2) hx hb dX13_prompts_44 (by decide) ?_
      obtain ⟨q5, c5, h⟩ := x_call h
      refine xCall (w2 := MW cA h0 q5.2) (xRunV (n := 1) (As := [.int 2]) (rest := []) ⟨hx, hb, hml, hown, hts⟩ (kX13_fails l D cA h0 _ N 2 s0_4 q5 c5) qco_X13_fails qml_X13_57 qin_X13_fails qse_X13_fails qini_X13 (by decide +kernel) (by rw [← erm]; rfl) hK hP hD [0, 1, 2, 3, 4, 5, 6, 7] rfl rfl (q0 := 0) rfl rfl rfl rfl rfl hl.1 rfl (lv_room (Nat.le_of_ble_eq_true rfl)) dX13_prompts_45 ⟨Nat.zero_le _, Nat.zero_le _⟩) hP hD hS hA [0, 1, 2, 3, 4, 5, 6, 7] [] [0, 1, 2, 3, 4, 5, 6, 7] rfl (wr := []) rfl rfl rfl rfl rfl (fun H locs hP hD hS => ?_)
      have h := Option.some.inj h
      subst h
      exact xIret hx hb hr hlocks hP hK hD hS dX13_prompts_48
    refine lv_if_eq (tgt := 43) hx hb dX13_prompts_29 (by decide) (fun c6 => ?_) (fun c6 => ?_)
    · have h := x_t h c6
      exact hJ_J43 s0 _ _ hP hD hS _ (lv_sub hl [1] rfl) h
    · have h := x_f h c6
      refine lv_iload hx hb dX13_prompts_32 (lv_at hl 6 rfl) ?_
      refine lv_iconst (v := 1) hx hb dX13_prompts_34 (by decide) ?_
      refine lv_bipush (v := 9) hx hb dX13_prompts_35 (by decide) ?_
      obtain ⟨q7, c7, h⟩ := x_call h
      refine xCall (w2 := MW cA h0 s0) (xRunS (n := 3) (As := [.int a5, .int 1, .int 9]) (rest := []) ⟨hx, hb, hml, hown, hts⟩ (kX13_in l D cA  _ N a5 1 9 q7 c7) qco_X13_in qml_X13_49 qst_X13_in qini_X13 (by decide +kernel) (by rw [← erm]; rfl) hK hP hD [] rfl rfl rfl rfl hl.1 rfl (lv_room (Nat.le_of_ble_eq_true rfl)) dX13_prompts_37 ⟨Nat.zero_le _, Nat.zero_le _⟩) hP hD hS hA [] [0, 1, 2, 3, 4, 5, 6, 7] [0, 1, 2, 3, 4, 5, 6, 7] rfl (wr := [(h0 0, .inr (12, [.ref (h0 1), .ref (h0 2), .ref (h0 3), .int (s0.2.2.2.1), .ref (h0 4), .int (s0.2.2.2.2.2.1), .ref (h0 5), .int (s0.2.2.2.2.2.2.2.1), .int (s0.2.2.2.2.2.2.2.2.1), .int (s0.2.2.2.2.2.2.2.2.2.1), .ref (h0 6), .int (s0.2.2.2.2.2.2.2.2.2.2.2.1), .int (s0.2.2.2.2.2.2.2.2.2.2.2.2.1), .int (s0.2.2.2.2.2.2.2.2.2.2.2.2.2.1), .int (s0.2.2.2.2.2.2.2.2.2.2.2.2.2.2.1), .ref (h0 7)])), (h0 1, .inl (cA 0, 229, .inl (s0.1))), (h0 2, .inl (cA 0, 229, .inl (s0.2.1))), (h0 3, .inl (cA 0, 1832, .inl (s0.2.2.1))), (h0 4, .inl (cA 0, 229, .inl (s0.2.2.2.2.1))), (h0 5, .inl (cA 1, 60, .inl (s0.2.2.2.2.2.2.1))), (h0 6, .inl (cA 1, 60, .inl (s0.2.2.2.2.2.2.2.2.2.2.1))), (h0 7, .inl (cA 0, 240, .inl (s0.2.2.2.2.2.2.2.2.2.2.2.2.2.2.2)))]) rfl rfl rfl rfl rfl (fun H locs hP hD hS => ?_)
      refine lv_if_ne (tgt := 49) hx hb dX13_prompts_40 (by decide) (fun c8 => ?_) (fun c8 => ?_)
      · have h := x_f h c8
        refine lv_aload_n hx hb dX13_prompts_49 rfl (lv_at hl 1 rfl) ?_
        refine va_get (D := D) (ci := 12) (v := .ref (h0 1)) (C := RX13) (T := TX13) (N := 16) hx hb hts iX13 hown hK hP 0 rfl rfl 0 (by decide) (hts _ qfl_X13_7) (fun _ h9 => h9) rfl dX13_prompts_50 ?_
        refine lv_iconst (v := 4) hx hb dX13_prompts_53 (by decide) ?_
        refine xIald hx hb hK hP 1 0 rfl rfl (x_lit (k := 4) (by decide)) dX13_prompts_54 ?_
        refine lv_topi (fun x9 ex9 => ?_)
        have h := x_let h ex9
        refine lv_istore (lv' := [(7, .int x9), (6, .int q1), (0, .ref (h0 0)), (1, .int a1), (2, .int a2), (3, .int a3), (4, .int a4), (5, .int a5)]) hx hb dX13_prompts_55 hl (by decide) rfl (fun ls hl => ?_)
        refine lv_iload hx hb dX13_prompts_57 (lv_at hl 0 rfl) ?_
        refine lv_bipush (v := 6) hx hb dX13_prompts_59 (by decide) ?_
        refine lv_icmp_ne (tgt := 70) hx hb dX13_prompts_61 (by decide) (fun c10 => ?_) (fun c10 => ?_)
        · have h := x_f h c10
          refine lv_aload_n hx hb dX13_prompts_70 rfl (lv_at hl 2 rfl) ?_
          refine va_get (D := D) (ci := 12) (v := .ref (h0 1)) (C := RX13) (T := TX13) (N := 16) hx hb hts iX13 hown hK hP 0 rfl rfl 0 (by decide) (hts _ qfl_X13_7) (fun _ h9 => h9) rfl dX13_prompts_71 ?_
          refine lv_sipush (v := 157) hx hb dX13_prompts_74 (by decide) ?_
          refine lv_iload hx hb dX13_prompts_77 (lv_at hl 0 rfl) ?_
          refine lv_iadd hx hb dX13_prompts_79 ?_
          refine lv_iload_n hx hb dX13_prompts_80 rfl (lv_at hl 3 rfl) ?_
          obtain ⟨k11, hk11, h⟩ := x_rd h
          refine xIast (w2 := fun zz => MW cA h0 ((Ms0 s0 zz))) hx hb hK hP hD hS 1 0 rfl rfl hk11 (fun _ => rfl) dX13_prompts_81 (fun g12 eg12 H locs hP hD hS => ?_)
          have h := x_let h eg12
          have hP : va_P D vwCl (MW cA h0 ((Ms0 s0 g12))) H := hP
          have hD : va_D A (MW cA h0 ((Ms0 s0 g12))) := hD
          refine lv_aload_n hx hb dX13_prompts_82 rfl (lv_at hl 2 rfl) ?_
          refine va_get (D := D) (ci := 12) (v := .ref (h0 1)) (C := RX13) (T := TX13) (N := 16) hx hb hts iX13 hown hK hP 0 rfl rfl 0 (by decide) (hts _ qfl_X13_7) (fun _ h9 => h9) rfl dX13_prompts_83 ?_
          refine lv_sipush (v := 163) hx hb dX13_prompts_86 (by decide) ?_
          refine lv_iload hx hb dX13_prompts_89 (lv_at hl 0 rfl) ?_
          refine lv_iadd hx hb dX13_prompts_91 ?_
          refine lv_iload_n hx hb dX13_prompts_92 rfl (lv_at hl 4 rfl) ?_
          obtain ⟨k13, hk13, h⟩ := x_rd h
          refine xIast (w2 := fun zz => MW cA h0 ((Ms0 s0 zz))) hx hb hK hP hD hS 1 0 rfl rfl hk13 (fun _ => rfl) dX13_prompts_93 (fun g14 eg14 H locs hP hD hS => ?_)
          have h := x_let h eg14
          have hP : va_P D vwCl (MW cA h0 ((Ms0 s0 g14))) H := hP
          have hD : va_D A (MW cA h0 ((Ms0 s0 g14))) := hD
          refine lv_aload_n hx hb dX13_prompts_94 rfl (lv_at hl 2 rfl) ?_
          refine va_get (D := D) (ci := 12) (v := .ref (h0 1)) (C := RX13) (T := TX13) (N := 16) hx hb hts iX13 hown hK hP 0 rfl rfl 0 (by decide) (hts _ qfl_X13_7) (fun _ h9 => h9) rfl dX13_prompts_95 ?_
          refine lv_sipush (v := 169) hx hb dX13_prompts_98 (by decide) ?_
          refine lv_iload hx hb dX13_prompts_101 (lv_at hl 0 rfl) ?_
          refine lv_iadd hx hb dX13_prompts_103 ?_
          refine lv_iload_n hx hb dX13_prompts_104 rfl (lv_at hl 5 rfl) ?_
          obtain ⟨k15, hk15, h⟩ := x_rd h
          refine xIast (w2 := fun zz => MW cA h0 ((Ms0 s0 zz))) hx hb hK hP hD hS 1 0 rfl rfl hk15 (fun _ => rfl) dX13_prompts_105 (fun g16 eg16 H locs hP hD hS => ?_)
          have h := x_let h eg16
          have hP : va_P D vwCl (MW cA h0 ((Ms0 s0 g16))) H := hP
          have hD : va_D A (MW cA h0 ((Ms0 s0 g16))) := hD
          refine lv_aload_n hx hb dX13_prompts_106 rfl (lv_at hl 2 rfl) ?_
          refine va_get (D := D) (ci := 12) (v := .ref (h0 1)) (C := RX13) (T := TX13) (N := 16) hx hb hts iX13 hown hK hP 0 rfl rfl 0 (by decide) (hts _ qfl_X13_7) (fun _ h9 => h9) rfl dX13_prompts_107 ?_
          refine lv_sipush (v := 175) hx hb dX13_prompts_110 (by decide) ?_
          refine lv_iload hx hb dX13_prompts_113 (lv_at hl 0 rfl) ?_
          refine lv_iadd hx hb dX13_prompts_115 ?_
          refine lv_iload hx hb dX13_prompts_116 (lv_at hl 6 rfl) ?_
          obtain ⟨k17, hk17, h⟩ := x_rd h
          refine xIast (w2 := fun zz => MW cA h0 ((Ms0 s0 zz))) hx hb hK hP hD hS 1 0 rfl rfl hk17 (fun _ => rfl) dX13_prompts_118 (fun g18 eg18 H locs hP hD hS => ?_)
          have h := x_let h eg18
          have hP : va_P D vwCl (MW cA h0 ((Ms0 s0 g18))) H := hP
          have hD : va_D A (MW cA h0 ((Ms0 s0 g18))) := hD
          refine lv_aload_n hx hb dX13_prompts_119 rfl (lv_at hl 2 rfl) ?_
          refine va_get (D := D) (ci := 12) (v := .ref (h0 1)) (C := RX13) (T := TX13) (N := 16) hx hb hts iX13 hown hK hP 0 rfl rfl 0 (by decide) (hts _ qfl_X13_7) (fun _ h9 => h9) rfl dX13_prompts_120 ?_
          refine lv_sipush (v := 181) hx hb dX13_prompts_123 (by decide) ?_
          refine lv_iload hx hb dX13_prompts_126 (lv_at hl 0 rfl) ?_
          refine lv_iadd hx hb dX13_prompts_128 ?_
          refine lv_iload hx hb dX13_prompts_129 (lv_at hl 7 rfl) ?_
          obtain ⟨k19, hk19, h⟩ := x_rd h
          refine xIast (w2 := fun zz => MW cA h0 ((Ms0 s0 zz))) hx hb hK hP hD hS 1 0 rfl rfl hk19 (fun _ => rfl) dX13_prompts_131 (fun g20 eg20 H locs hP hD hS => ?_)
          have h := x_let h eg20
          have hP : va_P D vwCl (MW cA h0 ((Ms0 s0 g20))) H := hP
          have hD : va_D A (MW cA h0 ((Ms0 s0 g20))) := hD
          refine lv_aload_n hx hb dX13_prompts_132 rfl (lv_at hl 2 rfl) ?_
          refine va_get (D := D) (ci := 12) (v := .ref (h0 1)) (C := RX13) (T := TX13) (N := 16) hx hb hts iX13 hown hK hP 0 rfl rfl 0 (by decide) (hts _ qfl_X13_7) (fun _ h9 => h9) rfl dX13_prompts_133 ?_
          refine lv_sipush (v := 187) hx hb dX13_prompts_136 (by decide) ?_
          refine lv_iload hx hb dX13_prompts_139 (lv_at hl 0 rfl) ?_
          refine lv_iadd hx hb dX13_prompts_141 ?_
          refine lv_aload_n hx hb dX13_prompts_142 rfl (lv_at hl 2 rfl) ?_
          refine va_get (D := D) (ci := 12) (v := .ref (h0 1)) (C := RX13) (T := TX13) (N := 16) hx hb hts iX13 hown hK hP 0 rfl rfl 0 (by decide) (hts _ qfl_X13_7) (fun _ h9 => h9) rfl dX13_prompts_143 ?_
          refine lv_iconst (v := 0) hx hb dX13_prompts_146 (by decide) ?_
          refine xIald hx hb hK hP 1 0 rfl rfl (x_lit (k := 0) (by decide)) dX13_prompts_147 ?_
          obtain ⟨k21, hk21, h⟩ := x_rd h
          refine xIast (w2 := fun zz => MW cA h0 ((Ms0 s0 zz))) hx hb hK hP hD hS 1 0 rfl rfl hk21 (fun _ => rfl) dX13_prompts_148 (fun g22 eg22 H locs hP hD hS => ?_)
          have h := x_let h eg22
          have hP : va_P D vwCl (MW cA h0 ((Ms0 s0 g22))) H := hP
          have hD : va_D A (MW cA h0 ((Ms0 s0 g22))) := hD
          refine lv_aload_n hx hb dX13_prompts_149 rfl (lv_at hl 2 rfl) ?_
          refine va_get (D := D) (ci := 12) (v := .ref (h0 1)) (C := RX13) (T := TX13) (N := 16) hx hb hts iX13 hown hK hP 0 rfl rfl 0 (by decide) (hts _ qfl_X13_7) (fun _ h9 => h9) rfl dX13_prompts_150 ?_
          refine lv_iconst (v := 4) hx hb dX13_prompts_153 (by decide) ?_
          refine lv_dup2_11 hx hb dX13_prompts_154 rfl rfl ?_
          refine xIald hx hb hK hP 1 0 rfl rfl (x_lit (k := 4) (by decide)) dX13_prompts_155 ?_
          refine lv_iconst (v := 1) hx hb dX13_prompts_156 (by decide) ?_
          refine lv_iadd hx hb dX13_prompts_157 ?_
          refine xIast (w2 := fun zz => MW cA h0 ((Ms0 s0 zz))) hx hb hK hP hD hS 1 0 rfl rfl (x_lit (k := 4) (by decide)) (fun _ => rfl) dX13_prompts_158 (fun g23 eg23 H locs hP hD hS => ?_)
          have h := x_let h eg23
          have hP : va_P D vwCl (MW cA h0 ((Ms0 s0 g23))) H := hP
          have hD : va_D A (MW cA h0 ((Ms0 s0 g23))) := hD
          refine lv_aload_n hx hb dX13_prompts_159 rfl (lv_at hl 2 rfl) ?_
          refine lv_iload hx hb dX13_prompts_160 (lv_at hl 0 rfl) ?_
          obtain ⟨q24, c24, h⟩ := x_call h
          refine xCall (w2 := MW cA h0 q24.2) (xRunV (n := 1) (As := [.int x9]) (rest := []) ⟨hx, hb, hml, hown, hts⟩ (kX13_done l D cA h0 _ N x9 ((Ms0 s0 g23)) q24 c24) qco_X13_done qml_X13_60 qin_X13_done qse_X13_done qini_X13 (by decide +kernel) (by rw [← erm]; rfl) hK hP hD [0, 1, 2, 3, 4, 5, 6, 7] rfl rfl (q0 := 0) rfl rfl rfl rfl rfl hl.1 rfl (lv_room (Nat.le_of_ble_eq_true rfl)) dX13_prompts_162 ⟨Nat.zero_le _, Nat.zero_le _⟩) hP hD hS hA [0, 1, 2, 3, 4, 5, 6, 7] [] [0, 1, 2, 3, 4, 5, 6, 7] rfl (wr := []) rfl rfl rfl rfl rfl (fun H locs hP hD hS => ?_)
          have h := Option.some.inj h
          subst h
          exact xIret hx hb hr hlocks hP hK hD hS dX13_prompts_165
        · have h := x_t h c10
          refine lv_aload_n hx hb dX13_prompts_64 rfl (lv_at hl 2 rfl) ?_
          refine lv_iconst (v := 3) hx hb dX13_prompts_65 (by decide) ?_
          obtain ⟨q25, c25, h⟩ := x_call h
          refine xCall (w2 := MW cA h0 q25.2) (xRunV (n := 1) (As := [.int 3]) (rest := []) ⟨hx, hb, hml, hown, hts⟩ (kX13_fails l D cA h0 _ N 3 s0 q25 c25) qco_X13_fails qml_X13_57 qin_X13_fails qse_X13_fails qini_X13 (by decide +kernel) (by rw [← erm]; rfl) hK hP hD [0, 1, 2, 3, 4, 5, 6, 7] rfl rfl (q0 := 0) rfl rfl rfl rfl rfl hl.1 rfl (lv_room (Nat.le_of_ble_eq_true rfl)) dX13_prompts_66 ⟨Nat.zero_le _, Nat.zero_le _⟩) hP hD hS hA [0, 1, 2, 3, 4, 5, 6, 7] [] [0, 1, 2, 3, 4, 5, 6, 7] rfl (wr := []) rfl rfl rfl rfl rfl (fun H locs hP hD hS => ?_)
          have h := Option.some.inj h
          subst h
          exact xIret hx hb hr hlocks hP hK hD hS dX13_prompts_69
      · have h := x_t h c8
        exact hJ_J43 s0 _ _ hP hD hS _ (lv_sub hl [1] rfl) h
  · have h := x_f h c2
    refine lv_aload_n hx hb dX13_prompts_14 rfl (lv_at hl 1 rfl) ?_
    refine lv_iload hx hb dX13_prompts_15 (lv_at hl 0 rfl) ?_
    obtain ⟨q26, c26, h⟩ := x_call h
    refine xCall (w2 := MW cA h0 q26.2) (xRunV (n := 1) (As := [.int q1]) (rest := []) ⟨hx, hb, hml, hown, hts⟩ (kX13_fails l D cA h0 _ N q1 s0 q26 c26) qco_X13_fails qml_X13_57 qin_X13_fails qse_X13_fails qini_X13 (by decide +kernel) (by rw [← erm]; rfl) hK hP hD [0, 1, 2, 3, 4, 5, 6, 7] rfl rfl (q0 := 0) rfl rfl rfl rfl rfl hl.1 rfl (lv_room (Nat.le_of_ble_eq_true rfl)) dX13_prompts_17 ⟨Nat.zero_le _, Nat.zero_le _⟩) hP hD hS hA [0, 1, 2, 3, 4, 5, 6, 7] [] [0, 1, 2, 3, 4, 5, 6, 7] rfl (wr := []) rfl rfl rfl rfl rfl (fun H locs hP hD hS => ?_)
    have h := Option.some.inj h
    subst h
    exact xIret hx hb hr hlocks hP hK hD hS dX13_prompts_20
def fX13_prompt (N : Nat) (a1 : Int32) (a2 : Int32) (a3 : Int32) (a4 : Int32) (a5 : Int32) (s0 : MS) : Option (Int32 × MS) :=
  xcall (fX13_begin N s0) fun q1 =>
  xcall (fX13_prompts N a1 a2 a3 a4 a5 q1) fun q2 =>
  xcall (fX13_kept N q2.1 q2.2) fun q3 =>
  some (q3.1, q3.2)
set_option maxRecDepth 100000 in
set_option maxHeartbeats 4000000 in
theorem kX13_prompt (l : Launch) (D : va_G) (cA : Nat → ClassId) (h0 : Nat → Nat) (sz N : Nat) (a1 : Int32) (a2 : Int32) (a3 : Int32) (a4 : Int32) (a5 : Int32) (s0 : MS) (q : Int32 × MS) (h : fX13_prompt N a1 a2 a3 a4 a5 s0 = some q) : xM l yX13_prompt cX13_prompt 6 (some .int) ({ frames := 4, cells := 0, slots := 0, locals := 93 }) D cA (MW cA h0 s0) sz [.ref (h0 0), .int a1, .int a2, .int a3, .int a4, .int a5] (some (.int q.1)) (MW cA h0 q.2) := by
  generalize erm : ({ frames := 4, cells := 0, slots := 0, locals := 93 } : Room) = rm
  refine xMet (by decide) (Nat.le_of_ble_eq_true rfl) ?_
  intro p e s m below meth c hx hb hr hlocks hml hts hown hin hK hP A eA hD hS hA hsz ls hl
  have hl : lv_has ls 6 [(0, .ref (h0 0)), (1, .int a1), (2, .int a2), (3, .int a3), (4, .int a4), (5, .int a5)] := hl
  clear eA
  rw [fX13_prompt] at h
  refine lv_aload_n hx hb dX13_prompt_0 rfl (lv_at hl 0 rfl) ?_
  obtain ⟨q1, c1, h⟩ := x_call h
  refine xCall (w2 := MW cA h0 q1) (xRunV (n := 0) (As := []) (rest := []) ⟨hx, hb, hml, hown, hts⟩ (kX13_begin l D cA h0 _ N s0 q1 c1) qco_X13_begin qml_X13_63 qin_X13_begin qse_X13_begin qini_X13 (by decide +kernel) (by rw [← erm]; rfl) hK hP hD [0, 1, 2, 3, 4, 5, 6, 7] rfl rfl (q0 := 0) rfl rfl rfl rfl rfl hl.1 rfl (lv_room (Nat.le_of_ble_eq_true rfl)) dX13_prompt_1 ⟨Nat.zero_le _, Nat.zero_le _⟩) hP hD hS hA [0, 1, 2, 3, 4, 5, 6, 7] [] [0, 1, 2, 3, 4, 5, 6, 7] rfl (wr := []) rfl rfl rfl rfl rfl (fun H locs hP hD hS => ?_)
  refine lv_aload_n hx hb dX13_prompt_4 rfl (lv_at hl 0 rfl) ?_
  refine lv_aload_n hx hb dX13_prompt_5 rfl (lv_at hl 0 rfl) ?_
  refine lv_iload_n hx hb dX13_prompt_6 rfl (lv_at hl 1 rfl) ?_
  refine lv_iload_n hx hb dX13_prompt_7 rfl (lv_at hl 2 rfl) ?_
  refine lv_iload_n hx hb dX13_prompt_8 rfl (lv_at hl 3 rfl) ?_
  refine lv_iload hx hb dX13_prompt_9 (lv_at hl 4 rfl) ?_
  refine lv_iload hx hb dX13_prompt_11 (lv_at hl 5 rfl) ?_
  obtain ⟨q2, c2, h⟩ := x_call h
  refine xCall (w2 := MW cA h0 q2.2) (xRunV (n := 5) (As := [.int a1, .int a2, .int a3, .int a4, .int a5]) (rest := [.ref (h0 0)]) ⟨hx, hb, hml, hown, hts⟩ (kX13_prompts l D cA h0 _ N a1 a2 a3 a4 a5 q1 q2 c2) qco_X13_prompts qml_X13_97 qin_X13_prompts qse_X13_prompts qini_X13 (by decide +kernel) (by rw [← erm]; rfl) hK hP hD [0, 1, 2, 3, 4, 5, 6, 7] rfl rfl (q0 := 0) rfl rfl rfl rfl rfl hl.1 rfl (lv_room (Nat.le_of_ble_eq_true rfl)) dX13_prompt_13 ⟨Nat.zero_le _, Nat.zero_le _⟩) hP hD hS hA [0, 1, 2, 3, 4, 5, 6, 7] [] [0, 1, 2, 3, 4, 5, 6, 7] rfl (wr := []) rfl rfl rfl rfl rfl (fun H locs hP hD hS => ?_)
  obtain ⟨q3, c3, h⟩ := x_call h
  refine xCall (w2 := MW cA h0 q3.2) (xRunV (n := 1) (As := [.int q2.1]) (rest := []) ⟨hx, hb, hml, hown, hts⟩ (kX13_kept l D cA h0 _ N q2.1 q2.2 q3 c3) qco_X13_kept qml_X13_74 qin_X13_kept qse_X13_kept qini_X13 (by decide +kernel) (by rw [← erm]; rfl) hK hP hD [0, 1, 2, 3, 4, 5, 6, 7] rfl rfl (q0 := 0) rfl rfl rfl rfl rfl hl.1 rfl (lv_room (Nat.le_of_ble_eq_true rfl)) dX13_prompt_16 ⟨Nat.zero_le _, Nat.zero_le _⟩) hP hD hS hA [0, 1, 2, 3, 4, 5, 6, 7] [] [0, 1, 2, 3, 4, 5, 6, 7] rfl (wr := []) rfl rfl rfl rfl rfl (fun H locs hP hD hS => ?_)
  have h := Option.some.inj h
  subst h
  exact xIret hx hb hr hlocks hP hK hD hS dX13_prompt_19
def fX13_isPrompt (N : Nat) (a1 : Int32) (s0 : MS) : Option (Int32) :=
  xcall (fX13_in N a1 0 ((s0.1 4) - 1)) fun q1 =>
  xnz (xnar .boolean q1) <|
  some q1
set_option maxRecDepth 100000 in
set_option maxHeartbeats 4000000 in
theorem kX13_isPrompt (l : Launch) (D : va_G) (cA : Nat → ClassId) (h0 : Nat → Nat) (sz N : Nat) (a1 : Int32) (s0 : MS) (q : Int32) (h : fX13_isPrompt N a1 s0 = some q) : xM l yX13_isPrompt cX13_isPrompt 2 (some .boolean) ({ frames := 1, cells := 0, slots := 0, locals := 22 }) D cA (MW cA h0 s0) sz [.ref (h0 0), .int a1] (some (.int q)) (MW cA h0 s0) := by
  generalize erm : ({ frames := 1, cells := 0, slots := 0, locals := 22 } : Room) = rm
  refine xMet (by decide) (Nat.le_of_ble_eq_true rfl) ?_
  intro p e s m below meth c hx hb hr hlocks hml hts hown hin hK hP A eA hD hS hA hsz ls hl
  have hl : lv_has ls 2 [(0, .ref (h0 0)), (1, .int a1)] := hl
  clear eA
  rw [fX13_isPrompt] at h
  refine lv_iload_n hx hb dX13_isPrompt_0 rfl (lv_at hl 1 rfl) ?_
  refine lv_iconst (v := 0) hx hb dX13_isPrompt_1 (by decide) ?_
  refine lv_aload_n hx hb dX13_isPrompt_2 rfl (lv_at hl 0 rfl) ?_
  refine va_get (D := D) (ci := 12) (v := .ref (h0 1)) (C := RX13) (T := TX13) (N := 16) hx hb hts iX13 hown hK hP 0 rfl rfl 0 (by decide) (hts _ qfl_X13_7) (fun _ h9 => h9) rfl dX13_isPrompt_3 ?_
  refine lv_iconst (v := 4) hx hb dX13_isPrompt_6 (by decide) ?_
  refine xIald hx hb hK hP 1 0 rfl rfl (x_lit (k := 4) (by decide)) dX13_isPrompt_7 ?_
  refine lv_iconst (v := 1) hx hb dX13_isPrompt_8 (by decide) ?_
  refine lv_isub hx hb dX13_isPrompt_9 ?_
  obtain ⟨q1, c1, h⟩ := x_call h
  refine xCall (w2 := MW cA h0 s0) (xRunS (n := 3) (As := [.int a1, .int 0, .int ((s0.1 4) - 1)]) (rest := []) ⟨hx, hb, hml, hown, hts⟩ (kX13_in l D cA  _ N a1 0 ((s0.1 4) - 1) q1 c1) qco_X13_in qml_X13_49 qst_X13_in qini_X13 (by decide +kernel) (by rw [← erm]; rfl) hK hP hD [] rfl rfl rfl rfl hl.1 rfl (lv_room (Nat.le_of_ble_eq_true rfl)) dX13_isPrompt_10 ⟨Nat.zero_le _, Nat.zero_le _⟩) hP hD hS hA [] [0, 1, 2, 3, 4, 5, 6, 7] [0, 1, 2, 3, 4, 5, 6, 7] rfl (wr := [(h0 0, .inr (12, [.ref (h0 1), .ref (h0 2), .ref (h0 3), .int (s0.2.2.2.1), .ref (h0 4), .int (s0.2.2.2.2.2.1), .ref (h0 5), .int (s0.2.2.2.2.2.2.2.1), .int (s0.2.2.2.2.2.2.2.2.1), .int (s0.2.2.2.2.2.2.2.2.2.1), .ref (h0 6), .int (s0.2.2.2.2.2.2.2.2.2.2.2.1), .int (s0.2.2.2.2.2.2.2.2.2.2.2.2.1), .int (s0.2.2.2.2.2.2.2.2.2.2.2.2.2.1), .int (s0.2.2.2.2.2.2.2.2.2.2.2.2.2.2.1), .ref (h0 7)])), (h0 1, .inl (cA 0, 229, .inl (s0.1))), (h0 2, .inl (cA 0, 229, .inl (s0.2.1))), (h0 3, .inl (cA 0, 1832, .inl (s0.2.2.1))), (h0 4, .inl (cA 0, 229, .inl (s0.2.2.2.2.1))), (h0 5, .inl (cA 1, 60, .inl (s0.2.2.2.2.2.2.1))), (h0 6, .inl (cA 1, 60, .inl (s0.2.2.2.2.2.2.2.2.2.2.1))), (h0 7, .inl (cA 0, 240, .inl (s0.2.2.2.2.2.2.2.2.2.2.2.2.2.2.2)))]) rfl rfl rfl rfl rfl (fun H locs hP hD hS => ?_)
  obtain ⟨z2, h⟩ := x_nz h
  have h := Option.some.inj h
  subst h
  exact xZret hx hb hr hlocks (xnar_n z2) hP hK hD hS dX13_isPrompt_13
def fX13_ends_L13 (N : Nat) (K42 : Int32 → Int32 → MS → Option (MS)) : Nat → Int32 → Int32 → Int32 → MS → Option (MS)
  | 0, _, _, _, _ => none
  | n + 1, v1_7, v2_7, v3_7, s0_7 =>
    if 5 ≤ v3_7 then
      K42 v1_7 v2_7 s0_7
    else
      xrd 229 ((v2_7 + v3_7) + 1) fun k9 =>
      xrd 229 (v2_7 + v3_7) fun k10 =>
      xlet (upd s0_7.1 k10 (s0_7.1 k9)) fun g11 =>
      xlet (v3_7 + (1)) fun x12 =>
      fX13_ends_L13 N K42 n v1_7 v2_7 x12 ((Ms0 s0_7 g11))
def fX13_ends_L4 (N : Nat) (K48 : MS → Option (MS)) : Nat → Int32 → Int32 → MS → Option (MS)
  | 0, _, _, _ => none
  | n + 1, v1_3, v2_3, s0_3 =>
    if 193 ≤ v2_3 then
      K48 s0_3
    else
      xjoin (fun (v1_5 : Int32) (v2_5 : Int32) (s0_5 : MS) =>
          xlet (v2_5 + (6)) fun x6 =>
          fX13_ends_L4 N K48 n v1_5 x6 s0_5
        ) fun K42 =>
      fX13_ends_L13 N K42 N v1_3 v2_3 v1_3 s0_3
def fX13_ends (N : Nat) (a1 : Int32) (s0 : MS) : Option (MS) :=
  xjoin (fun (s0_1 : MS) =>
      xlet (upd s0_1.1 4 ((s0_1.1 4) - 1)) fun g2 =>
      some ((Ms0 s0_1 g2))
    ) fun K48 =>
  fX13_ends_L4 N K48 N a1 157 s0
set_option maxRecDepth 100000 in
set_option maxHeartbeats 4000000 in
theorem kX13_ends (l : Launch) (D : va_G) (cA : Nat → ClassId) (h0 : Nat → Nat) (sz N : Nat) (a1 : Int32) (s0 : MS) (q : MS) (h : fX13_ends N a1 s0 = some q) : xM l yX13_ends cX13_ends 4 none ({ frames := 0, cells := 0, slots := 0, locals := 0 }) D cA (MW cA h0 s0) sz [.ref (h0 0), .int a1] (none) (MW cA h0 q) := by
  generalize erm : ({ frames := 0, cells := 0, slots := 0, locals := 0 } : Room) = rm
  refine xMet (by decide) (Nat.le_of_ble_eq_true rfl) ?_
  intro p e s m below meth c hx hb hr hlocks hml hts hown hin hK hP A eA hD hS hA hsz ls hl
  have hl : lv_has ls 4 [(0, .ref (h0 0)), (1, .int a1)] := hl
  clear eA
  rw [fX13_ends] at h
  refine lv_sipush (v := 157) hx hb dX13_ends_0 (by decide) ?_
  refine lv_istore_n (lv' := [(2, .int 157), (0, .ref (h0 0)), (1, .int a1)]) hx hb dX13_ends_3 rfl hl (by decide) rfl (fun ls hl => ?_)
  obtain ⟨K48, eK48, h⟩ := x_join h
  have hJ_K48 : ∀ (s0_1 : MS) (H : Heap) (locs : List Loc), va_P D vwCl (MW cA h0 s0_1) H → va_D A (MW cA h0 s0_1) → va_S A s.heap H locs → ∀ ls : Array Slot, lv_has ls 4 [(0, .ref (h0 0))] → K48 s0_1 = some q → W p l e rm s m ([.ref (h0 0), .int a1] : List Value).toArray below meth c H locs 0 0 (MQ below (xQ D cA A (MW cA h0 q) (none)) ([.ref (h0 0), .int a1] : List Value).toArray s 0 0 A) (F0 m 48 ls []) := by
    clear h hP hD hS hl
    intro s0_1 H locs hP hD hS ls hl h
    rw [eK48] at h
    refine lv_aload_n hx hb dX13_ends_48 rfl (lv_at hl 0 rfl) ?_
    refine va_get (D := D) (ci := 12) (v := .ref (h0 1)) (C := RX13) (T := TX13) (N := 16) hx hb hts iX13 hown hK hP 0 rfl rfl 0 (by decide) (hts _ qfl_X13_7) (fun _ h9 => h9) rfl dX13_ends_49 ?_
    refine lv_iconst (v := 4) hx hb dX13_ends_52 (by decide) ?_
    refine lv_dup2_11 hx hb dX13_ends_53 rfl rfl ?_
    refine xIald hx hb hK hP 1 0 rfl rfl (x_lit (k := 4) (by decide)) dX13_ends_54 ?_
    refine lv_iconst (v := 1) hx hb dX13_ends_55 (by decide) ?_
    refine lv_isub hx hb dX13_ends_56 ?_
    refine xIast (w2 := fun zz => MW cA h0 ((Ms0 s0_1 zz))) hx hb hK hP hD hS 1 0 rfl rfl (x_lit (k := 4) (by decide)) (fun _ => rfl) dX13_ends_57 (fun g2 eg2 H locs hP hD hS => ?_)
    have h := x_let h eg2
    have hP : va_P D vwCl (MW cA h0 ((Ms0 s0_1 g2))) H := hP
    have hD : va_D A (MW cA h0 ((Ms0 s0_1 g2))) := hD
    have h := Option.some.inj h
    subst h
    exact xVret hx hb hr hlocks hP hK hD hS dX13_ends_58
  have hL4 : ∀ (n : Nat) (v1_3 : Int32) (v2_3 : Int32) (s0_3 : MS) (H : Heap) (locs : List Loc), va_P D vwCl (MW cA h0 s0_3) H → va_D A (MW cA h0 s0_3) → va_S A s.heap H locs → ∀ ls : Array Slot, lv_has ls 4 [(0, .ref (h0 0)), (1, .int v1_3), (2, .int v2_3)] → fX13_ends_L4 N K48 n v1_3 v2_3 s0_3 = some q → W p l e rm s m ([.ref (h0 0), .int a1] : List Value).toArray below meth c H locs 0 0 (MQ below (xQ D cA A (MW cA h0 q) (none)) ([.ref (h0 0), .int a1] : List Value).toArray s 0 0 A) (F0 m 4 ls []) := by
    clear h hP hD hS hl
    intro n
    induction n with
    | zero => intro v1_3 v2_3 s0_3 H locs hP hD hS ls hl h; rw [fX13_ends_L4] at h; cases h
    | succ n ih =>
      intro v1_3 v2_3 s0_3 H locs hP hD hS ls hl h
      rw [fX13_ends_L4] at h
      refine lv_iload_n hx hb dX13_ends_4 rfl (lv_at hl 2 rfl) ?_
      refine lv_sipush (v := 193) hx hb dX13_ends_5 (by decide) ?_
      refine lv_icmp_ge (tgt := 48) hx hb dX13_ends_8 (by decide) (fun c4 => ?_) (fun c4 => ?_)
      · have h := x_t h c4
        exact hJ_K48 s0_3 _ _ hP hD hS _ (lv_sub hl [0] rfl) h
      · have h := x_f h c4
        refine lv_iload_n hx hb dX13_ends_11 rfl (lv_at hl 1 rfl) ?_
        refine lv_istore_n (lv' := [(3, .int v1_3), (0, .ref (h0 0)), (1, .int v1_3), (2, .int v2_3)]) hx hb dX13_ends_12 rfl hl (by decide) rfl (fun ls hl => ?_)
        obtain ⟨K42, eK42, h⟩ := x_join h
        have hJ_K42 : ∀ (v1_5 : Int32) (v2_5 : Int32) (s0_5 : MS) (H : Heap) (locs : List Loc), va_P D vwCl (MW cA h0 s0_5) H → va_D A (MW cA h0 s0_5) → va_S A s.heap H locs → ∀ ls : Array Slot, lv_has ls 4 [(0, .ref (h0 0)), (1, .int v1_5), (2, .int v2_5)] → K42 v1_5 v2_5 s0_5 = some q → W p l e rm s m ([.ref (h0 0), .int a1] : List Value).toArray below meth c H locs 0 0 (MQ below (xQ D cA A (MW cA h0 q) (none)) ([.ref (h0 0), .int a1] : List Value).toArray s 0 0 A) (F0 m 42 ls []) := by
          clear h hP hD hS hl
          intro v1_5 v2_5 s0_5 H locs hP hD hS ls hl h
          rw [eK42] at h
          obtain ⟨x6, ex6⟩ : ∃ y : Int32, y = v2_5 + (6) := ⟨_, rfl⟩
          have h := x_let h ex6
          refine lv_iinc (v := x6) (lv' := [(2, .int x6), (0, .ref (h0 0)), (1, .int v1_5)]) hx hb dX13_ends_42 hl (k := 2) rfl (by rw [ex6]; rfl) (by decide) rfl (fun ls hl => ?_)
          refine lv_goto (tgt := 4) hx hb dX13_ends_45 (by decide) ?_
          exact ih v1_5 x6 s0_5 _ _ hP hD hS _ (lv_sub hl [1, 2, 0] rfl) h
        have hL13 : ∀ (n : Nat) (v1_7 : Int32) (v2_7 : Int32) (v3_7 : Int32) (s0_7 : MS) (H : Heap) (locs : List Loc), va_P D vwCl (MW cA h0 s0_7) H → va_D A (MW cA h0 s0_7) → va_S A s.heap H locs → ∀ ls : Array Slot, lv_has ls 4 [(0, .ref (h0 0)), (1, .int v1_7), (2, .int v2_7), (3, .int v3_7)] → fX13_ends_L13 N K42 n v1_7 v2_7 v3_7 s0_7 = some q → W p l e rm s m ([.ref (h0 0), .int a1] : List Value).toArray below meth c H locs 0 0 (MQ below (xQ D cA A (MW cA h0 q) (none)) ([.ref (h0 0), .int a1] : List Value).toArray s 0 0 A) (F0 m 13 ls []) := by
          clear h hP hD hS hl
          intro n
          induction n with
          | zero => intro v1_7 v2_7 v3_7 s0_7 H locs hP hD hS ls hl h; rw [fX13_ends_L13] at h; cases h
          | succ n ih =>
            intro v1_7 v2_7 v3_7 s0_7 H locs hP hD hS ls hl h
            rw [fX13_ends_L13] at h
            refine lv_iload_n hx hb dX13_ends_13 rfl (lv_at hl 3 rfl) ?_
            refine lv_iconst (v := 5) hx hb dX13_ends_14 (by decide) ?_
            refine lv_icmp_ge (tgt := 42) hx hb dX13_ends_15 (by decide) (fun c8 => ?_) (fun c8 => ?_)
            · have h := x_t h c8
              exact hJ_K42 v1_7 v2_7 s0_7 _ _ hP hD hS _ (lv_sub hl [0, 1, 2] rfl) h
            · have h := x_f h c8
              refine lv_aload_n hx hb dX13_ends_18 rfl (lv_at hl 0 rfl) ?_
              refine va_get (D := D) (ci := 12) (v := .ref (h0 1)) (C := RX13) (T := TX13) (N := 16) hx hb hts iX13 hown hK hP 0 rfl rfl 0 (by decide) (hts _ qfl_X13_7) (fun _ h9 => h9) rfl dX13_ends_19 ?_
              refine lv_iload_n hx hb dX13_ends_22 rfl (lv_at hl 2 rfl) ?_
              refine lv_iload_n hx hb dX13_ends_23 rfl (lv_at hl 3 rfl) ?_
              refine lv_iadd hx hb dX13_ends_24 ?_
              refine lv_aload_n hx hb dX13_ends_25 rfl (lv_at hl 0 rfl) ?_
              refine va_get (D := D) (ci := 12) (v := .ref (h0 1)) (C := RX13) (T := TX13) (N := 16) hx hb hts iX13 hown hK hP 0 rfl rfl 0 (by decide) (hts _ qfl_X13_7) (fun _ h9 => h9) rfl dX13_ends_26 ?_
              refine lv_iload_n hx hb dX13_ends_29 rfl (lv_at hl 2 rfl) ?_
              refine lv_iload_n hx hb dX13_ends_30 rfl (lv_at hl 3 rfl) ?_
              refine lv_iadd hx hb dX13_ends_31 ?_
              refine lv_iconst (v := 1) hx hb dX13_ends_32 (by decide) ?_
              refine lv_iadd hx hb dX13_ends_33 ?_
              obtain ⟨k9, hk9, h⟩ := x_rd h
              refine xIald hx hb hK hP 1 0 rfl rfl hk9 dX13_ends_34 ?_
              obtain ⟨k10, hk10, h⟩ := x_rd h
              refine xIast (w2 := fun zz => MW cA h0 ((Ms0 s0_7 zz))) hx hb hK hP hD hS 1 0 rfl rfl hk10 (fun _ => rfl) dX13_ends_35 (fun g11 eg11 H locs hP hD hS => ?_)
              have h := x_let h eg11
              have hP : va_P D vwCl (MW cA h0 ((Ms0 s0_7 g11))) H := hP
              have hD : va_D A (MW cA h0 ((Ms0 s0_7 g11))) := hD
              obtain ⟨x12, ex12⟩ : ∃ y : Int32, y = v3_7 + (1) := ⟨_, rfl⟩
              have h := x_let h ex12
              refine lv_iinc (v := x12) (lv' := [(3, .int x12), (0, .ref (h0 0)), (1, .int v1_7), (2, .int v2_7)]) hx hb dX13_ends_36 hl (k := 3) rfl (by rw [ex12]; rfl) (by decide) rfl (fun ls hl => ?_)
              refine lv_goto (tgt := 13) hx hb dX13_ends_39 (by decide) ?_
              exact ih v1_7 v2_7 x12 ((Ms0 s0_7 g11)) _ _ hP hD hS _ (lv_sub hl [1, 2, 3, 0] rfl) h
        exact hL13 N v1_3 v2_3 v1_3 s0_3 _ _ hP hD hS _ (lv_sub hl [1, 2, 3, 0] rfl) h
  exact hL4 N a1 157 s0 _ _ hP hD hS _ (lv_sub hl [1, 2, 0] rfl) h
def fX13_cancels (N : Nat) (a1 : Int32) (s0 : MS) : Option (Int32 × MS) :=
  xcall (fX13_isPrompt N a1 s0) fun q1 =>
  if q1 = 0 then
    xcall (fX13_fails N 1 s0) fun q7 =>
    some (q7.1, q7.2)
  else
    xrd 229 (181 + a1) fun k3 =>
    xlet (s0.1 k3) fun x4 =>
    xcall (fX13_ends N a1 s0) fun q5 =>
    xcall (fX13_done N x4 q5) fun q6 =>
    some (q6.1, q6.2)
set_option maxRecDepth 100000 in
set_option maxHeartbeats 4000000 in
theorem kX13_cancels (l : Launch) (D : va_G) (cA : Nat → ClassId) (h0 : Nat → Nat) (sz N : Nat) (a1 : Int32) (s0 : MS) (q : Int32 × MS) (h : fX13_cancels N a1 s0 = some q) : xM l yX13_cancels cX13_cancels 3 (some .int) ({ frames := 2, cells := 0, slots := 0, locals := 43 }) D cA (MW cA h0 s0) sz [.ref (h0 0), .int a1] (some (.int q.1)) (MW cA h0 q.2) := by
  generalize erm : ({ frames := 2, cells := 0, slots := 0, locals := 43 } : Room) = rm
  refine xMet (by decide) (Nat.le_of_ble_eq_true rfl) ?_
  intro p e s m below meth c hx hb hr hlocks hml hts hown hin hK hP A eA hD hS hA hsz ls hl
  have hl : lv_has ls 3 [(0, .ref (h0 0)), (1, .int a1)] := hl
  clear eA
  rw [fX13_cancels] at h
  refine lv_aload_n hx hb dX13_cancels_0 rfl (lv_at hl 0 rfl) ?_
  refine lv_iload_n hx hb dX13_cancels_1 rfl (lv_at hl 1 rfl) ?_
  obtain ⟨q1, c1, h⟩ := x_call h
  refine xCall (w2 := MW cA h0 s0) (xRunV (n := 1) (As := [.int a1]) (rest := []) ⟨hx, hb, hml, hown, hts⟩ (kX13_isPrompt l D cA h0 _ N a1 s0 q1 c1) qco_X13_isPrompt qml_X13_101 qin_X13_isPrompt qse_X13_isPrompt qini_X13 (by decide +kernel) (by rw [← erm]; rfl) hK hP hD [0, 1, 2, 3, 4, 5, 6, 7] rfl rfl (q0 := 0) rfl rfl rfl rfl rfl hl.1 rfl (lv_room (Nat.le_of_ble_eq_true rfl)) dX13_cancels_2 ⟨Nat.zero_le _, Nat.zero_le _⟩) hP hD hS hA [0, 1, 2, 3, 4, 5, 6, 7] [] [0, 1, 2, 3, 4, 5, 6, 7] rfl (wr := []) rfl rfl rfl rfl rfl (fun H locs hP hD hS => ?_)
  refine lv_if_ne (tgt := 14) hx hb dX13_cancels_5 (by decide) (fun c2 => ?_) (fun c2 => ?_)
  · have h := x_f h c2
    refine lv_aload_n hx hb dX13_cancels_14 rfl (lv_at hl 0 rfl) ?_
    refine va_get (D := D) (ci := 12) (v := .ref (h0 1)) (C := RX13) (T := TX13) (N := 16) hx hb hts iX13 hown hK hP 0 rfl rfl 0 (by decide) (hts _ qfl_X13_7) (fun _ h9 => h9) rfl dX13_cancels_15 ?_
    refine lv_sipush (v := 181) hx hb dX13_cancels_18 (by decide) ?_
    refine lv_iload_n hx hb dX13_cancels_21 rfl (lv_at hl 1 rfl) ?_
    refine lv_iadd hx hb dX13_cancels_22 ?_
    obtain ⟨k3, hk3, h⟩ := x_rd h
    refine xIald hx hb hK hP 1 0 rfl rfl hk3 dX13_cancels_23 ?_
    refine lv_topi (fun x4 ex4 => ?_)
    have h := x_let h ex4
    refine lv_istore_n (lv' := [(2, .int x4), (0, .ref (h0 0)), (1, .int a1)]) hx hb dX13_cancels_24 rfl hl (by decide) rfl (fun ls hl => ?_)
    refine lv_aload_n hx hb dX13_cancels_25 rfl (lv_at hl 1 rfl) ?_
    refine lv_iload_n hx hb dX13_cancels_26 rfl (lv_at hl 2 rfl) ?_
    obtain ⟨q5, c5, h⟩ := x_call h
    refine xCall (w2 := MW cA h0 q5) (xRunV (n := 1) (As := [.int a1]) (rest := []) ⟨hx, hb, hml, hown, hts⟩ (kX13_ends l D cA h0 _ N a1 s0 q5 c5) qco_X13_ends qml_X13_104 qin_X13_ends qse_X13_ends qini_X13 (by decide +kernel) (by rw [← erm]; rfl) hK hP hD [0, 1, 2, 3, 4, 5, 6, 7] rfl rfl (q0 := 0) rfl rfl rfl rfl rfl hl.1 rfl (lv_room (Nat.le_of_ble_eq_true rfl)) dX13_cancels_27 ⟨Nat.zero_le _, Nat.zero_le _⟩) hP hD hS hA [0, 1, 2, 3, 4, 5, 6, 7] [] [0, 1, 2, 3, 4, 5, 6, 7] rfl (wr := []) rfl rfl rfl rfl rfl (fun H locs hP hD hS => ?_)
    refine lv_aload_n hx hb dX13_cancels_30 rfl (lv_at hl 1 rfl) ?_
    refine lv_iload_n hx hb dX13_cancels_31 rfl (lv_at hl 0 rfl) ?_
    obtain ⟨q6, c6, h⟩ := x_call h
    refine xCall (w2 := MW cA h0 q6.2) (xRunV (n := 1) (As := [.int x4]) (rest := []) ⟨hx, hb, hml, hown, hts⟩ (kX13_done l D cA h0 _ N x4 q5 q6 c6) qco_X13_done qml_X13_60 qin_X13_done qse_X13_done qini_X13 (by decide +kernel) (by rw [← erm]; rfl) hK hP hD [0, 1, 2, 3, 4, 5, 6, 7] rfl rfl (q0 := 0) rfl rfl rfl rfl rfl hl.1 rfl (lv_room (Nat.le_of_ble_eq_true rfl)) dX13_cancels_32 ⟨Nat.zero_le _, Nat.zero_le _⟩) hP hD hS hA [0, 1, 2, 3, 4, 5, 6, 7] [] [0, 1, 2, 3, 4, 5, 6, 7] rfl (wr := []) rfl rfl rfl rfl rfl (fun H locs hP hD hS => ?_)
    have h := Option.some.inj h
    subst h
    exact xIret hx hb hr hlocks hP hK hD hS dX13_cancels_35
  · have h := x_t h c2
    refine lv_aload_n hx hb dX13_cancels_8 rfl (lv_at hl 0 rfl) ?_
    refine lv_iconst (v := 1) hx hb dX13_cancels_9 (by decide) ?_
    obtain ⟨q7, c7, h⟩ := x_call h
    refine xCall (w2 := MW cA h0 q7.2) (xRunV (n := 1) (As := [.int 1]) (rest := []) ⟨hx, hb, hml, hown, hts⟩ (kX13_fails l D cA h0 _ N 1 s0 q7 c7) qco_X13_fails qml_X13_57 qin_X13_fails qse_X13_fails qini_X13 (by decide +kernel) (by rw [← erm]; rfl) hK hP hD [0, 1, 2, 3, 4, 5, 6, 7] rfl rfl (q0 := 0) rfl rfl rfl rfl rfl hl.1 rfl (lv_room (Nat.le_of_ble_eq_true rfl)) dX13_cancels_10 ⟨Nat.zero_le _, Nat.zero_le _⟩) hP hD hS hA [0, 1, 2, 3, 4, 5, 6, 7] [] [0, 1, 2, 3, 4, 5, 6, 7] rfl (wr := []) rfl rfl rfl rfl rfl (fun H locs hP hD hS => ?_)
    have h := Option.some.inj h
    subst h
    exact xIret hx hb hr hlocks hP hK hD hS dX13_cancels_13
def fX13_cancelPrompt (N : Nat) (a1 : Int32) (s0 : MS) : Option (Int32 × MS) :=
  xcall (fX13_begin N s0) fun q1 =>
  xcall (fX13_cancels N a1 q1) fun q2 =>
  xcall (fX13_kept N q2.1 q2.2) fun q3 =>
  some (q3.1, q3.2)
set_option maxRecDepth 100000 in
set_option maxHeartbeats 4000000 in
theorem kX13_cancelPrompt (l : Launch) (D : va_G) (cA : Nat → ClassId) (h0 : Nat → Nat) (sz N : Nat) (a1 : Int32) (s0 : MS) (q : Int32 × MS) (h : fX13_cancelPrompt N a1 s0 = some q) : xM l yX13_cancelPrompt cX13_cancelPrompt 2 (some .int) ({ frames := 3, cells := 0, slots := 0, locals := 65 }) D cA (MW cA h0 s0) sz [.ref (h0 0), .int a1] (some (.int q.1)) (MW cA h0 q.2) := by
  generalize erm : ({ frames := 3, cells := 0, slots := 0, locals := 65 } : Room) = rm
  refine xMet (by decide) (Nat.le_of_ble_eq_true rfl) ?_
  intro p e s m below meth c hx hb hr hlocks hml hts hown hin hK hP A eA hD hS hA hsz ls hl
  have hl : lv_has ls 2 [(0, .ref (h0 0)), (1, .int a1)] := hl
  clear eA
  rw [fX13_cancelPrompt] at h
  refine lv_aload_n hx hb dX13_cancelPrompt_0 rfl (lv_at hl 0 rfl) ?_
  obtain ⟨q1, c1, h⟩ := x_call h
  refine xCall (w2 := MW cA h0 q1) (xRunV (n := 0) (As := []) (rest := []) ⟨hx, hb, hml, hown, hts⟩ (kX13_begin l D cA h0 _ N s0 q1 c1) qco_X13_begin qml_X13_63 qin_X13_begin qse_X13_begin qini_X13 (by decide +kernel) (by rw [← erm]; rfl) hK hP hD [0, 1, 2, 3, 4, 5, 6, 7] rfl rfl (q0 := 0) rfl rfl rfl rfl rfl hl.1 rfl (lv_room (Nat.le_of_ble_eq_true rfl)) dX13_cancelPrompt_1 ⟨Nat.zero_le _, Nat.zero_le _⟩) hP hD hS hA [0, 1, 2, 3, 4, 5, 6, 7] [] [0, 1, 2, 3, 4, 5, 6, 7] rfl (wr := []) rfl rfl rfl rfl rfl (fun H locs hP hD hS => ?_)
  refine lv_aload_n hx hb dX13_cancelPrompt_4 rfl (lv_at hl 0 rfl) ?_
  refine lv_aload_n hx hb dX13_cancelPrompt_5 rfl (lv_at hl 0 rfl) ?_
  refine lv_iload_n hx hb dX13_cancelPrompt_6 rfl (lv_at hl 1 rfl) ?_
  obtain ⟨q2, c2, h⟩ := x_call h
  refine xCall (w2 := MW cA h0 q2.2) (xRunV (n := 1) (As := [.int a1]) (rest := [.ref (h0 0)]) ⟨hx, hb, hml, hown, hts⟩ (kX13_cancels l D cA h0 _ N a1 q1 q2 c2) qco_X13_cancels qml_X13_108 qin_X13_cancels qse_X13_cancels qini_X13 (by decide +kernel) (by rw [← erm]; rfl) hK hP hD [0, 1, 2, 3, 4, 5, 6, 7] rfl rfl (q0 := 0) rfl rfl rfl rfl rfl hl.1 rfl (lv_room (Nat.le_of_ble_eq_true rfl)) dX13_cancelPrompt_7 ⟨Nat.zero_le _, Nat.zero_le _⟩) hP hD hS hA [0, 1, 2, 3, 4, 5, 6, 7] [] [0, 1, 2, 3, 4, 5, 6, 7] rfl (wr := []) rfl rfl rfl rfl rfl (fun H locs hP hD hS => ?_)
  obtain ⟨q3, c3, h⟩ := x_call h
  refine xCall (w2 := MW cA h0 q3.2) (xRunV (n := 1) (As := [.int q2.1]) (rest := []) ⟨hx, hb, hml, hown, hts⟩ (kX13_kept l D cA h0 _ N q2.1 q2.2 q3 c3) qco_X13_kept qml_X13_74 qin_X13_kept qse_X13_kept qini_X13 (by decide +kernel) (by rw [← erm]; rfl) hK hP hD [0, 1, 2, 3, 4, 5, 6, 7] rfl rfl (q0 := 0) rfl rfl rfl rfl rfl hl.1 rfl (lv_room (Nat.le_of_ble_eq_true rfl)) dX13_cancelPrompt_10 ⟨Nat.zero_le _, Nat.zero_le _⟩) hP hD hS hA [0, 1, 2, 3, 4, 5, 6, 7] [] [0, 1, 2, 3, 4, 5, 6, 7] rfl (wr := []) rfl rfl rfl rfl rfl (fun H locs hP hD hS => ?_)
  have h := Option.some.inj h
  subst h
  exact xIret hx hb hr hlocks hP hK hD hS dX13_cancelPrompt_13
def fX13_passesHour_L131 (N : Nat) (K167 : Int32 → MS → Option (Int32 × MS)) : Nat → Int32 → Int32 → MS → Option (Int32 × MS)
  | 0, _, _, _ => none
  | n + 1, v1_4, v2_4, s0_4 =>
    if v2_4 < 0 then
      K167 v1_4 s0_4
    else
      xcall (fX13_isPrompt N v2_4 s0_4) fun q6 =>
      xjoin (fun (v1_7 : Int32) (v2_7 : Int32) (s0_7 : MS) =>
          xlet (v2_7 + (-1)) fun x8 =>
          fX13_passesHour_L131 N K167 n v1_7 x8 s0_7
        ) fun J161 =>
      if q6 = 0 then
        J161 v1_4 v2_4 s0_4
      else
        xrd 229 (181 + v2_4) fun k10 =>
        if (s0_4.1 k10) = 0 then
          xcall (fX13_ends N v2_4 s0_4) fun q12 =>
          J161 v1_4 v2_4 q12
        else
          J161 v1_4 v2_4 s0_4
def fX13_passesHour_L14 (N : Nat) (K129 : Int32 → MS → Option (Int32 × MS)) : Nat → Int32 → Int32 → MS → Option (Int32 × MS)
  | 0, _, _, _ => none
  | n + 1, v1_13, v2_13, s0_13 =>
    if (s0_13.1 4) ≤ v2_13 then
      K129 v1_13 s0_13
    else
      xrd 229 (187 + v2_13) fun k15 =>
      xrd 229 (175 + v2_13) fun k16 =>
      xjoin (fun (v1_17 : Int32) (v2_17 : Int32) (s0_17 : MS) =>
          xlet (v2_17 + (1)) fun x18 =>
          fX13_passesHour_L14 N K129 n v1_17 x18 s0_17
        ) fun J123 =>
      if ((s0_13.1 0) - (s0_13.1 k15)) = (s0_13.1 k16) then
        xrd 229 (157 + v2_13) fun k20 =>
        xrd 229 (163 + v2_13) fun k21 =>
        xrd 229 (169 + v2_13) fun k22 =>
        xcall (fX13_enters N (s0_13.1 k20) (s0_13.1 k21) (s0_13.1 k22) 0 s0_13) fun q23 =>
        xrd 229 (187 + v2_13) fun k24 =>
        xlet (upd q23.2.1 k24 (q23.2.1 0)) fun g25 =>
        xrd 229 (181 + v2_13) fun k26 =>
        xrd 229 (181 + v2_13) fun k27 =>
        xlet (upd g25 k27 ((g25 k26) - 1)) fun g28 =>
        xlet (v1_13 + (1)) fun x29 =>
        J123 x29 v2_13 ((Ms0 q23.2 g28))
      else
        J123 v1_13 v2_13 s0_13
def fX13_passesHour (N : Nat)  (s0 : MS) : Option (Int32 × MS) :=
  xlet (upd s0.1 0 ((s0.1 0) + 1)) fun g1 =>
  xjoin (fun (v1_2 : Int32) (s0_2 : MS) =>
      xjoin (fun (v1_3 : Int32) (s0_3 : MS) =>
          some (v1_3, s0_3)
        ) fun K167 =>
      fX13_passesHour_L131 N K167 N v1_2 5 s0_2
    ) fun K129 =>
  fX13_passesHour_L14 N K129 N 0 0 ((Ms0 s0 g1))
set_option maxRecDepth 100000 in
set_option maxHeartbeats 4000000 in
theorem kX13_passesHour (l : Launch) (D : va_G) (cA : Nat → ClassId) (h0 : Nat → Nat) (sz N : Nat)  (s0 : MS) (q : Int32 × MS) (h : fX13_passesHour N s0 = some q) : xM l yX13_passesHour cX13_passesHour 4 (some .int) ({ frames := 2, cells := 0, slots := 0, locals := 43 }) D cA (MW cA h0 s0) sz [.ref (h0 0)] (some (.int q.1)) (MW cA h0 q.2) := by
  generalize erm : ({ frames := 2, cells := 0, slots := 0, locals := 43 } : Room) = rm
  refine xMet (by decide) (Nat.le_of_ble_eq_true rfl) ?_
  intro p e s m below meth c hx hb hr hlocks hml hts hown hin hK hP A eA hD hS hA hsz ls hl
  have hl : lv_has ls 4 [(0, .ref (h0 0))] := hl
  clear eA
  rw [fX13_passesHour] at h
  refine lv_aload_n hx hb dX13_passesHour_0 rfl (lv_at hl 0 rfl) ?_
  refine va_get (D := D) (ci := 12) (v := .ref (h0 1)) (C := RX13) (T := TX13) (N := 16) hx hb hts iX13 hown hK hP 0 rfl rfl 0 (by decide) (hts _ qfl_X13_7) (fun _ h9 => h9) rfl dX13_passesHour_1 ?_
  refine lv_iconst (v := 0) hx hb dX13_passesHour_4 (by decide) ?_
  refine lv_dup2_11 hx hb dX13_passesHour_5 rfl rfl ?_
  refine xIald hx hb hK hP 1 0 rfl rfl (x_lit (k := 0) (by decide)) dX13_passesHour_6 ?_
  refine lv_iconst (v := 1) hx hb dX13_passesHour_7 (by decide) ?_
  refine lv_iadd hx hb dX13_passesHour_8 ?_
  refine xIast (w2 := fun zz => MW cA h0 ((Ms0 s0 zz))) hx hb hK hP hD hS 1 0 rfl rfl (x_lit (k := 0) (by decide)) (fun _ => rfl) dX13_passesHour_9 (fun g1 eg1 H locs hP hD hS => ?_)
  have h := x_let h eg1
  have hP : va_P D vwCl (MW cA h0 ((Ms0 s0 g1))) H := hP
  have hD : va_D A (MW cA h0 ((Ms0 s0 g1))) := hD
  refine lv_iconst (v := 0) hx hb dX13_passesHour_10 (by decide) ?_
  refine lv_istore_n (lv' := [(1, .int 0), (0, .ref (h0 0))]) hx hb dX13_passesHour_11 rfl hl (by decide) rfl (fun ls hl => ?_)
  refine lv_iconst (v := 0) hx hb dX13_passesHour_12 (by decide) ?_
  refine lv_istore_n (lv' := [(2, .int 0), (1, .int 0), (0, .ref (h0 0))]) hx hb dX13_passesHour_13 rfl hl (by decide) rfl (fun ls hl => ?_)
  obtain ⟨K129, eK129, h⟩ := x_join h
  have hJ_K129 : ∀ (v1_2 : Int32) (s0_2 : MS) (H : Heap) (locs : List Loc), va_P D vwCl (MW cA h0 s0_2) H → va_D A (MW cA h0 s0_2) → va_S A s.heap H locs → ∀ ls : Array Slot, lv_has ls 4 [(0, .ref (h0 0)), (1, .int v1_2)] → K129 v1_2 s0_2 = some q → W p l e rm s m ([.ref (h0 0)] : List Value).toArray below meth c H locs 0 0 (MQ below (xQ D cA A (MW cA h0 q.2) (some (.int q.1))) ([.ref (h0 0)] : List Value).toArray s 0 0 A) (F0 m 129 ls []) := by
    clear h hP hD hS hl
    intro v1_2 s0_2 H locs hP hD hS ls hl h
    rw [eK129] at h
    refine lv_iconst (v := 5) hx hb dX13_passesHour_129 (by decide) ?_
    refine lv_istore_n (lv' := [(2, .int 5), (0, .ref (h0 0)), (1, .int v1_2)]) hx hb dX13_passesHour_130 rfl hl (by decide) rfl (fun ls hl => ?_)
    obtain ⟨K167, eK167, h⟩ := x_join h
    have hJ_K167 : ∀ (v1_3 : Int32) (s0_3 : MS) (H : Heap) (locs : List Loc), va_P D vwCl (MW cA h0 s0_3) H → va_D A (MW cA h0 s0_3) → va_S A s.heap H locs → ∀ ls : Array Slot, lv_has ls 4 [(1, .int v1_3)] → K167 v1_3 s0_3 = some q → W p l e rm s m ([.ref (h0 0)] : List Value).toArray below meth c H locs 0 0 (MQ below (xQ D cA A (MW cA h0 q.2) (some (.int q.1))) ([.ref (h0 0)] : List Value).toArray s 0 0 A) (F0 m 167 ls []) := by
      clear h hP hD hS hl
      intro v1_3 s0_3 H locs hP hD hS ls hl h
      rw [eK167] at h
      refine lv_iload_n hx hb dX13_passesHour_167 rfl (lv_at hl 0 rfl) ?_
      have h := Option.some.inj h
      subst h
      exact xIret hx hb hr hlocks hP hK hD hS dX13_passesHour_168
    have hL131 : ∀ (n : Nat) (v1_4 : Int32) (v2_4 : Int32) (s0_4 : MS) (H : Heap) (locs : List Loc), va_P D vwCl (MW cA h0 s0_4) H → va_D A (MW cA h0 s0_4) → va_S A s.heap H locs → ∀ ls : Array Slot, lv_has ls 4 [(0, .ref (h0 0)), (1, .int v1_4), (2, .int v2_4)] → fX13_passesHour_L131 N K167 n v1_4 v2_4 s0_4 = some q → W p l e rm s m ([.ref (h0 0)] : List Value).toArray below meth c H locs 0 0 (MQ below (xQ D cA A (MW cA h0 q.2) (some (.int q.1))) ([.ref (h0 0)] : List Value).toArray s 0 0 A) (F0 m 131 ls []) := by
      clear h hP hD hS hl
      intro n
      induction n with
      | zero => intro v1_4 v2_4 s0_4 H locs hP hD hS ls hl h; rw [fX13_passesHour_L131] at h; cases h
      | succ n ih =>
        intro v1_4 v2_4 s0_4 H locs hP hD hS ls hl h
        rw [fX13_passesHour_L131] at h
        refine lv_iload_n hx hb dX13_passesHour_131 rfl (lv_at hl 2 rfl) ?_
        refine lv_if_lt (tgt := 167) hx hb dX13_passesHour_132 (by decide) (fun c5 => ?_) (fun c5 => ?_)
        · have h := x_t h c5
          exact hJ_K167 v1_4 s0_4 _ _ hP hD hS _ (lv_sub hl [1] rfl) h
        · have h := x_f h c5
          refine lv_aload_n hx hb dX13_passesHour_135 rfl (lv_at hl 0 rfl) ?_
          refine lv_iload_n hx hb dX13_passesHour_136 rfl (lv_at hl 2 rfl) ?_
          obtain ⟨q6, c6, h⟩ := x_call h
          refine xCall (w2 := MW cA h0 s0_4) (xRunV (n := 1) (As := [.int v2_4]) (rest := []) ⟨hx, hb, hml, hown, hts⟩ (kX13_isPrompt l D cA h0 _ N v2_4 s0_4 q6 c6) qco_X13_isPrompt qml_X13_101 qin_X13_isPrompt qse_X13_isPrompt qini_X13 (by decide +kernel) (by rw [← erm]; rfl) hK hP hD [0, 1, 2, 3, 4, 5, 6, 7] rfl rfl (q0 := 0) rfl rfl rfl rfl rfl hl.1 rfl (lv_room (Nat.le_of_ble_eq_true rfl)) dX13_passesHour_137 ⟨Nat.zero_le _, Nat.zero_le _⟩) hP hD hS hA [0, 1, 2, 3, 4, 5, 6, 7] [] [0, 1, 2, 3, 4, 5, 6, 7] rfl (wr := []) rfl rfl rfl rfl rfl (fun H locs hP hD hS => ?_)
          obtain ⟨J161, eJ161, h⟩ := x_join h
          have hJ_J161 : ∀ (v1_7 : Int32) (v2_7 : Int32) (s0_7 : MS) (H : Heap) (locs : List Loc), va_P D vwCl (MW cA h0 s0_7) H → va_D A (MW cA h0 s0_7) → va_S A s.heap H locs → ∀ ls : Array Slot, lv_has ls 4 [(0, .ref (h0 0)), (1, .int v1_7), (2, .int v2_7)] → J161 v1_7 v2_7 s0_7 = some q → W p l e rm s m ([.ref (h0 0)] : List Value).toArray below meth c H locs 0 0 (MQ below (xQ D cA A (MW cA h0 q.2) (some (.int q.1))) ([.ref (h0 0)] : List Value).toArray s 0 0 A) (F0 m 161 ls []) := by
            clear h hP hD hS hl
            intro v1_7 v2_7 s0_7 H locs hP hD hS ls hl h
            rw [eJ161] at h
            obtain ⟨x8, ex8⟩ : ∃ y : Int32, y = v2_7 + (-1) := ⟨_, rfl⟩
            have h := x_let h ex8
            refine lv_iinc (v := x8) (lv' := [(2, .int x8), (0, .ref (h0 0)), (1, .int v1_7)]) hx hb dX13_passesHour_161 hl (k := 2) rfl (by rw [ex8]; rfl) (by decide) rfl (fun ls hl => ?_)
            refine lv_goto (tgt := 131) hx hb dX13_passesHour_164 (by decide) ?_
            exact ih v1_7 x8 s0_7 _ _ hP hD hS _ (lv_sub hl [1, 2, 0] rfl) h
          refine lv_if_eq (tgt := 161) hx hb dX13_passesHour_140 (by decide) (fun c9 => ?_) (fun c9 => ?_)
          · have h := x_t h c9
            exact hJ_J161 v1_4 v2_4 s0_4 _ _ hP hD hS _ (lv_sub hl [0, 1, 2] rfl) h
          · have h := x_f h c9
            refine lv_aload_n hx hb dX13_passesHour_143 rfl (lv_at hl 0 rfl) ?_
            refine va_get (D := D) (ci := 12) (v := .ref (h0 1)) (C := RX13) (T := TX13) (N := 16) hx hb hts iX13 hown hK hP 0 rfl rfl 0 (by decide) (hts _ qfl_X13_7) (fun _ h9 => h9) rfl dX13_passesHour_144 ?_
            refine lv_sipush (v := 181) hx hb dX13_passesHour_147 (by decide) ?_
            refine lv_iload_n hx hb dX13_passesHour_150 rfl (lv_at hl 2 rfl) ?_
            refine lv_iadd hx hb dX13_passesHour_151 ?_
            obtain ⟨k10, hk10, h⟩ := x_rd h
            refine xIald hx hb hK hP 1 0 rfl rfl hk10 dX13_passesHour_152 ?_
            refine lv_if_ne (tgt := 161) hx hb dX13_passesHour_153 (by decide) (fun c11 => ?_) (fun c11 => ?_)
            · have h := x_f h c11
              exact hJ_J161 v1_4 v2_4 s0_4 _ _ hP hD hS _ (lv_sub hl [0, 1, 2] rfl) h
            · have h := x_t h c11
              refine lv_aload_n hx hb dX13_passesHour_156 rfl (lv_at hl 0 rfl) ?_
              refine lv_iload_n hx hb dX13_passesHour_157 rfl (lv_at hl 2 rfl) ?_
              obtain ⟨q12, c12, h⟩ := x_call h
              refine xCall (w2 := MW cA h0 q12) (xRunV (n := 1) (As := [.int v2_4]) (rest := []) ⟨hx, hb, hml, hown, hts⟩ (kX13_ends l D cA h0 _ N v2_4 s0_4 q12 c12) qco_X13_ends qml_X13_104 qin_X13_ends qse_X13_ends qini_X13 (by decide +kernel) (by rw [← erm]; rfl) hK hP hD [0, 1, 2, 3, 4, 5, 6, 7] rfl rfl (q0 := 0) rfl rfl rfl rfl rfl hl.1 rfl (lv_room (Nat.le_of_ble_eq_true rfl)) dX13_passesHour_158 ⟨Nat.zero_le _, Nat.zero_le _⟩) hP hD hS hA [0, 1, 2, 3, 4, 5, 6, 7] [] [0, 1, 2, 3, 4, 5, 6, 7] rfl (wr := []) rfl rfl rfl rfl rfl (fun H locs hP hD hS => ?_)
              exact hJ_J161 v1_4 v2_4 q12 _ _ hP hD hS _ (lv_sub hl [0, 1, 2] rfl) h
    exact hL131 N v1_2 5 s0_2 _ _ hP hD hS _ (lv_sub hl [1, 2, 0] rfl) h
  have hL14 : ∀ (n : Nat) (v1_13 : Int32) (v2_13 : Int32) (s0_13 : MS) (H : Heap) (locs : List Loc), va_P D vwCl (MW cA h0 s0_13) H → va_D A (MW cA h0 s0_13) → va_S A s.heap H locs → ∀ ls : Array Slot, lv_has ls 4 [(0, .ref (h0 0)), (1, .int v1_13), (2, .int v2_13)] → fX13_passesHour_L14 N K129 n v1_13 v2_13 s0_13 = some q → W p l e rm s m ([.ref (h0 0)] : List Value).toArray below meth c H locs 0 0 (MQ below (xQ D cA A (MW cA h0 q.2) (some (.int q.1))) ([.ref (h0 0)] : List Value).toArray s 0 0 A) (F0 m 14 ls []) := by
    clear h hP hD hS hl
    intro n
    induction n with
    | zero => intro v1_13 v2_13 s0_13 H locs hP hD hS ls hl h; rw [fX13_passesHour_L14] at h; cases h
    | succ n ih =>
      intro v1_13 v2_13 s0_13 H locs hP hD hS ls hl h
      rw [fX13_passesHour_L14] at h
      refine lv_iload_n hx hb dX13_passesHour_14 rfl (lv_at hl 2 rfl) ?_
      refine lv_aload_n hx hb dX13_passesHour_15 rfl (lv_at hl 0 rfl) ?_
      refine va_get (D := D) (ci := 12) (v := .ref (h0 1)) (C := RX13) (T := TX13) (N := 16) hx hb hts iX13 hown hK hP 0 rfl rfl 0 (by decide) (hts _ qfl_X13_7) (fun _ h9 => h9) rfl dX13_passesHour_16 ?_
      refine lv_iconst (v := 4) hx hb dX13_passesHour_19 (by decide) ?_
      refine xIald hx hb hK hP 1 0 rfl rfl (x_lit (k := 4) (by decide)) dX13_passesHour_20 ?_
      refine lv_icmp_ge (tgt := 129) hx hb dX13_passesHour_21 (by decide) (fun c14 => ?_) (fun c14 => ?_)
      · have h := x_t h c14
        exact hJ_K129 v1_13 s0_13 _ _ hP hD hS _ (lv_sub hl [0, 1] rfl) h
      · have h := x_f h c14
        refine lv_aload_n hx hb dX13_passesHour_24 rfl (lv_at hl 0 rfl) ?_
        refine va_get (D := D) (ci := 12) (v := .ref (h0 1)) (C := RX13) (T := TX13) (N := 16) hx hb hts iX13 hown hK hP 0 rfl rfl 0 (by decide) (hts _ qfl_X13_7) (fun _ h9 => h9) rfl dX13_passesHour_25 ?_
        refine lv_iconst (v := 0) hx hb dX13_passesHour_28 (by decide) ?_
        refine xIald hx hb hK hP 1 0 rfl rfl (x_lit (k := 0) (by decide)) dX13_passesHour_29 ?_
        refine lv_aload_n hx hb dX13_passesHour_30 rfl (lv_at hl 0 rfl) ?_
        refine va_get (D := D) (ci := 12) (v := .ref (h0 1)) (C := RX13) (T := TX13) (N := 16) hx hb hts iX13 hown hK hP 0 rfl rfl 0 (by decide) (hts _ qfl_X13_7) (fun _ h9 => h9) rfl dX13_passesHour_31 ?_
        refine lv_sipush (v := 187) hx hb dX13_passesHour_34 (by decide) ?_
        refine lv_iload_n hx hb dX13_passesHour_37 rfl (lv_at hl 2 rfl) ?_
        refine lv_iadd hx hb dX13_passesHour_38 ?_
        obtain ⟨k15, hk15, h⟩ := x_rd h
        refine xIald hx hb hK hP 1 0 rfl rfl hk15 dX13_passesHour_39 ?_
        refine lv_isub hx hb dX13_passesHour_40 ?_
        refine lv_aload_n hx hb dX13_passesHour_41 rfl (lv_at hl 0 rfl) ?_
        refine va_get (D := D) (ci := 12) (v := .ref (h0 1)) (C := RX13) (T := TX13) (N := 16) hx hb hts iX13 hown hK hP 0 rfl rfl 0 (by decide) (hts _ qfl_X13_7) (fun _ h9 => h9) rfl dX13_passesHour_42 ?_
        refine lv_sipush (v := 175) hx hb dX13_passesHour_45 (by decide) ?_
        refine lv_iload_n hx hb dX13_passesHour_48 rfl (lv_at hl 2 rfl) ?_
        refine lv_iadd hx hb dX13_passesHour_49 ?_
        obtain ⟨k16, hk16, h⟩ := x_rd h
        refine xIald hx hb hK hP 1 0 rfl rfl hk16 dX13_passesHour_50 ?_
        obtain ⟨J123, eJ123, h⟩ := x_join h
        have hJ_J123 : ∀ (v1_17 : Int32) (v2_17 : Int32) (s0_17 : MS) (H : Heap) (locs : List Loc), va_P D vwCl (MW cA h0 s0_17) H → va_D A (MW cA h0 s0_17) → va_S A s.heap H locs → ∀ ls : Array Slot, lv_has ls 4 [(0, .ref (h0 0)), (1, .int v1_17), (2, .int v2_17)] → J123 v1_17 v2_17 s0_17 = some q → W p l e rm s m ([.ref (h0 0)] : List Value).toArray below meth c H locs 0 0 (MQ below (xQ D cA A (MW cA h0 q.2) (some (.int q.1))) ([.ref (h0 0)] : List Value).toArray s 0 0 A) (F0 m 123 ls []) := by
          clear h hP hD hS hl
          intro v1_17 v2_17 s0_17 H locs hP hD hS ls hl h
          rw [eJ123] at h
          obtain ⟨x18, ex18⟩ : ∃ y : Int32, y = v2_17 + (1) := ⟨_, rfl⟩
          have h := x_let h ex18
          refine lv_iinc (v := x18) (lv' := [(2, .int x18), (0, .ref (h0 0)), (1, .int v1_17)]) hx hb dX13_passesHour_123 hl (k := 2) rfl (by rw [ex18]; rfl) (by decide) rfl (fun ls hl => ?_)
          refine lv_goto (tgt := 14) hx hb dX13_passesHour_126 (by decide) ?_
          exact ih v1_17 x18 s0_17 _ _ hP hD hS _ (lv_sub hl [1, 2, 0] rfl) h
        refine lv_icmp_ne (tgt := 123) hx hb dX13_passesHour_51 (by decide) (fun c19 => ?_) (fun c19 => ?_)
        · have h := x_f h c19
          exact hJ_J123 v1_13 v2_13 s0_13 _ _ hP hD hS _ (lv_sub hl [0, 1, 2] rfl) h
        · have h := x_t h c19
          refine lv_aload_n hx hb dX13_passesHour_54 rfl (lv_at hl 0 rfl) ?_
          refine lv_aload_n hx hb dX13_passesHour_55 rfl (lv_at hl 0 rfl) ?_
          refine va_get (D := D) (ci := 12) (v := .ref (h0 1)) (C := RX13) (T := TX13) (N := 16) hx hb hts iX13 hown hK hP 0 rfl rfl 0 (by decide) (hts _ qfl_X13_7) (fun _ h9 => h9) rfl dX13_passesHour_56 ?_
          refine lv_sipush (v := 157) hx hb dX13_passesHour_59 (by decide) ?_
          refine lv_iload_n hx hb dX13_passesHour_62 rfl (lv_at hl 2 rfl) ?_
          refine lv_iadd hx hb dX13_passesHour_63 ?_
          obtain ⟨k20, hk20, h⟩ := x_rd h
          refine xIald hx hb hK hP 1 0 rfl rfl hk20 dX13_passesHour_64 ?_
          refine lv_aload_n hx hb dX13_passesHour_65 rfl (lv_at hl 0 rfl) ?_
          refine va_get (D := D) (ci := 12) (v := .ref (h0 1)) (C := RX13) (T := TX13) (N := 16) hx hb hts iX13 hown hK hP 0 rfl rfl 0 (by decide) (hts _ qfl_X13_7) (fun _ h9 => h9) rfl dX13_passesHour_66 ?_
          refine lv_sipush (v := 163) hx hb dX13_passesHour_69 (by decide) ?_
          refine lv_iload_n hx hb dX13_passesHour_72 rfl (lv_at hl 2 rfl) ?_
          refine lv_iadd hx hb dX13_passesHour_73 ?_
          obtain ⟨k21, hk21, h⟩ := x_rd h
          refine xIald hx hb hK hP 1 0 rfl rfl hk21 dX13_passesHour_74 ?_
          refine lv_aload_n hx hb dX13_passesHour_75 rfl (lv_at hl 0 rfl) ?_
          refine va_get (D := D) (ci := 12) (v := .ref (h0 1)) (C := RX13) (T := TX13) (N := 16) hx hb hts iX13 hown hK hP 0 rfl rfl 0 (by decide) (hts _ qfl_X13_7) (fun _ h9 => h9) rfl dX13_passesHour_76 ?_
          refine lv_sipush (v := 169) hx hb dX13_passesHour_79 (by decide) ?_
          refine lv_iload_n hx hb dX13_passesHour_82 rfl (lv_at hl 2 rfl) ?_
          refine lv_iadd hx hb dX13_passesHour_83 ?_
          obtain ⟨k22, hk22, h⟩ := x_rd h
          refine xIald hx hb hK hP 1 0 rfl rfl hk22 dX13_passesHour_84 ?_
          refine lv_iconst (v := 0) hx hb dX13_passesHour_85 (by decide) ?_
          obtain ⟨q23, c23, h⟩ := x_call h
          refine xCall (w2 := MW cA h0 q23.2) (xRunV (n := 4) (As := [.int (s0_13.1 k20), .int (s0_13.1 k21), .int (s0_13.1 k22), .int 0]) (rest := []) ⟨hx, hb, hml, hown, hts⟩ (kX13_enters l D cA h0 _ N (s0_13.1 k20) (s0_13.1 k21) (s0_13.1 k22) 0 s0_13 q23 c23) qco_X13_enters qml_X13_84 qin_X13_enters qse_X13_enters qini_X13 (by decide +kernel) (by rw [← erm]; rfl) hK hP hD [0, 1, 2, 3, 4, 5, 6, 7] rfl rfl (q0 := 0) rfl rfl rfl rfl rfl hl.1 rfl (lv_room (Nat.le_of_ble_eq_true rfl)) dX13_passesHour_86 ⟨Nat.zero_le _, Nat.zero_le _⟩) hP hD hS hA [0, 1, 2, 3, 4, 5, 6, 7] [] [0, 1, 2, 3, 4, 5, 6, 7] rfl (wr := []) rfl rfl rfl rfl rfl (fun H locs hP hD hS => ?_)
          refine lv_istore_n (lv' := [(3, .int q23.1), (0, .ref (h0 0)), (1, .int v1_13), (2, .int v2_13)]) hx hb dX13_passesHour_89 rfl hl (by decide) rfl (fun ls hl => ?_)
          refine lv_aload_n hx hb dX13_passesHour_90 rfl (lv_at hl 1 rfl) ?_
          refine va_get (D := D) (ci := 12) (v := .ref (h0 1)) (C := RX13) (T := TX13) (N := 16) hx hb hts iX13 hown hK hP 0 rfl rfl 0 (by decide) (hts _ qfl_X13_7) (fun _ h9 => h9) rfl dX13_passesHour_91 ?_
          refine lv_sipush (v := 187) hx hb dX13_passesHour_94 (by decide) ?_
          refine lv_iload_n hx hb dX13_passesHour_97 rfl (lv_at hl 3 rfl) ?_
          refine lv_iadd hx hb dX13_passesHour_98 ?_
          refine lv_aload_n hx hb dX13_passesHour_99 rfl (lv_at hl 1 rfl) ?_
          refine va_get (D := D) (ci := 12) (v := .ref (h0 1)) (C := RX13) (T := TX13) (N := 16) hx hb hts iX13 hown hK hP 0 rfl rfl 0 (by decide) (hts _ qfl_X13_7) (fun _ h9 => h9) rfl dX13_passesHour_100 ?_
          refine lv_iconst (v := 0) hx hb dX13_passesHour_103 (by decide) ?_
          refine xIald hx hb hK hP 1 0 rfl rfl (x_lit (k := 0) (by decide)) dX13_passesHour_104 ?_
          obtain ⟨k24, hk24, h⟩ := x_rd h
          refine xIast (w2 := fun zz => MW cA h0 ((Ms0 q23.2 zz))) hx hb hK hP hD hS 1 0 rfl rfl hk24 (fun _ => rfl) dX13_passesHour_105 (fun g25 eg25 H locs hP hD hS => ?_)
          have h := x_let h eg25
          have hP : va_P D vwCl (MW cA h0 ((Ms0 q23.2 g25))) H := hP
          have hD : va_D A (MW cA h0 ((Ms0 q23.2 g25))) := hD
          refine lv_aload_n hx hb dX13_passesHour_106 rfl (lv_at hl 1 rfl) ?_
          refine va_get (D := D) (ci := 12) (v := .ref (h0 1)) (C := RX13) (T := TX13) (N := 16) hx hb hts iX13 hown hK hP 0 rfl rfl 0 (by decide) (hts _ qfl_X13_7) (fun _ h9 => h9) rfl dX13_passesHour_107 ?_
          refine lv_sipush (v := 181) hx hb dX13_passesHour_110 (by decide) ?_
          refine lv_iload_n hx hb dX13_passesHour_113 rfl (lv_at hl 3 rfl) ?_
          refine lv_iadd hx hb dX13_passesHour_114 ?_
          refine lv_dup2_11 hx hb dX13_passesHour_115 rfl rfl ?_
          obtain ⟨k26, hk26, h⟩ := x_rd h
          refine xIald hx hb hK hP 1 0 rfl rfl hk26 dX13_passesHour_116 ?_
          refine lv_iconst (v := 1) hx hb dX13_passesHour_117 (by decide) ?_
          refine lv_isub hx hb dX13_passesHour_118 ?_
          obtain ⟨k27, hk27, h⟩ := x_rd h
          refine xIast (w2 := fun zz => MW cA h0 ((Ms0 q23.2 zz))) hx hb hK hP hD hS 1 0 rfl rfl hk27 (fun _ => rfl) dX13_passesHour_119 (fun g28 eg28 H locs hP hD hS => ?_)
          have h := x_let h eg28
          have hP : va_P D vwCl (MW cA h0 ((Ms0 q23.2 g28))) H := hP
          have hD : va_D A (MW cA h0 ((Ms0 q23.2 g28))) := hD
          obtain ⟨x29, ex29⟩ : ∃ y : Int32, y = v1_13 + (1) := ⟨_, rfl⟩
          have h := x_let h ex29
          refine lv_iinc (v := x29) (lv' := [(1, .int x29), (3, .int q23.1), (0, .ref (h0 0)), (2, .int v2_13)]) hx hb dX13_passesHour_120 hl (k := 2) rfl (by rw [ex29]; rfl) (by decide) rfl (fun ls hl => ?_)
          exact hJ_J123 x29 v2_13 ((Ms0 q23.2 g28)) _ _ hP hD hS _ (lv_sub hl [2, 0, 3] rfl) h
  exact hL14 N 0 0 ((Ms0 s0 g1)) _ _ hP hD hS _ (lv_sub hl [2, 1, 0] rfl) h
def fX13_passes_L20 (N : Nat) (K38 : Int32 → MS → Option (Int32 × MS)) : Nat → Int32 → Int32 → Int32 → MS → Option (Int32 × MS)
  | 0, _, _, _, _ => none
  | n + 1, v1_5, v2_5, v3_5, s0_5 =>
    if v1_5 ≤ v3_5 then
      K38 v2_5 s0_5
    else
      xcall (fX13_passesHour N s0_5) fun q7 =>
      xlet (v2_5 + q7.1) fun x8 =>
      xlet (v3_5 + (1)) fun x9 =>
      fX13_passes_L20 N K38 n v1_5 x8 x9 q7.2
def fX13_passes (N : Nat) (a1 : Int32) (s0 : MS) : Option (Int32 × MS) :=
  xcall (fX13_in N a1 1 24) fun q1 =>
  if q1 = 0 then
    xcall (fX13_fails N 1 s0) fun q10 =>
    some (q10.1, q10.2)
  else
    xjoin (fun (v2_3 : Int32) (s0_3 : MS) =>
        xcall (fX13_done N v2_3 s0_3) fun q4 =>
        some (q4.1, q4.2)
      ) fun K38 =>
    fX13_passes_L20 N K38 N a1 0 0 s0
set_option maxRecDepth 100000 in
set_option maxHeartbeats 4000000 in
theorem kX13_passes (l : Launch) (D : va_G) (cA : Nat → ClassId) (h0 : Nat → Nat) (sz N : Nat) (a1 : Int32) (s0 : MS) (q : Int32 × MS) (h : fX13_passes N a1 s0 = some q) : xM l yX13_passes cX13_passes 4 (some .int) ({ frames := 3, cells := 0, slots := 0, locals := 66 }) D cA (MW cA h0 s0) sz [.ref (h0 0), .int a1] (some (.int q.1)) (MW cA h0 q.2) := by
  generalize erm : ({ frames := 3, cells := 0, slots := 0, locals := 66 } : Room) = rm
  refine xMet (by decide) (Nat.le_of_ble_eq_true rfl) ?_
  intro p e s m below meth c hx hb hr hlocks hml hts hown hin hK hP A eA hD hS hA hsz ls hl
  have hl : lv_has ls 4 [(0, .ref (h0 0)), (1, .int a1)] := hl
  clear eA
  rw [fX13_passes] at h
  refine lv_iload_n hx hb dX13_passes_0 rfl (lv_at hl 1 rfl) ?_
  refine lv_iconst (v := 1) hx hb dX13_passes_1 (by decide) ?_
  refine lv_bipush (v := 24) hx hb dX13_passes_2 (by decide) ?_
  obtain ⟨q1, c1, h⟩ := x_call h
  refine xCall (w2 := MW cA h0 s0) (xRunS (n := 3) (As := [.int a1, .int 1, .int 24]) (rest := []) ⟨hx, hb, hml, hown, hts⟩ (kX13_in l D cA  _ N a1 1 24 q1 c1) qco_X13_in qml_X13_49 qst_X13_in qini_X13 (by decide +kernel) (by rw [← erm]; rfl) hK hP hD [] rfl rfl rfl rfl hl.1 rfl (lv_room (Nat.le_of_ble_eq_true rfl)) dX13_passes_4 ⟨Nat.zero_le _, Nat.zero_le _⟩) hP hD hS hA [] [0, 1, 2, 3, 4, 5, 6, 7] [0, 1, 2, 3, 4, 5, 6, 7] rfl (wr := [(h0 0, .inr (12, [.ref (h0 1), .ref (h0 2), .ref (h0 3), .int (s0.2.2.2.1), .ref (h0 4), .int (s0.2.2.2.2.2.1), .ref (h0 5), .int (s0.2.2.2.2.2.2.2.1), .int (s0.2.2.2.2.2.2.2.2.1), .int (s0.2.2.2.2.2.2.2.2.2.1), .ref (h0 6), .int (s0.2.2.2.2.2.2.2.2.2.2.2.1), .int (s0.2.2.2.2.2.2.2.2.2.2.2.2.1), .int (s0.2.2.2.2.2.2.2.2.2.2.2.2.2.1), .int (s0.2.2.2.2.2.2.2.2.2.2.2.2.2.2.1), .ref (h0 7)])), (h0 1, .inl (cA 0, 229, .inl (s0.1))), (h0 2, .inl (cA 0, 229, .inl (s0.2.1))), (h0 3, .inl (cA 0, 1832, .inl (s0.2.2.1))), (h0 4, .inl (cA 0, 229, .inl (s0.2.2.2.2.1))), (h0 5, .inl (cA 1, 60, .inl (s0.2.2.2.2.2.2.1))), (h0 6, .inl (cA 1, 60, .inl (s0.2.2.2.2.2.2.2.2.2.2.1))), (h0 7, .inl (cA 0, 240, .inl (s0.2.2.2.2.2.2.2.2.2.2.2.2.2.2.2)))]) rfl rfl rfl rfl rfl (fun H locs hP hD hS => ?_)
  refine lv_if_ne (tgt := 16) hx hb dX13_passes_7 (by decide) (fun c2 => ?_) (fun c2 => ?_)
  · have h := x_f h c2
    refine lv_iconst (v := 0) hx hb dX13_passes_16 (by decide) ?_
    refine lv_istore_n (lv' := [(2, .int 0), (0, .ref (h0 0)), (1, .int a1)]) hx hb dX13_passes_17 rfl hl (by decide) rfl (fun ls hl => ?_)
    refine lv_iconst (v := 0) hx hb dX13_passes_18 (by decide) ?_
    refine lv_istore_n (lv' := [(3, .int 0), (2, .int 0), (0, .ref (h0 0)), (1, .int a1)]) hx hb dX13_passes_19 rfl hl (by decide) rfl (fun ls hl => ?_)
    obtain ⟨K38, eK38, h⟩ := x_join h
    have hJ_K38 : ∀ (v2_3 : Int32) (s0_3 : MS) (H : Heap) (locs : List Loc), va_P D vwCl (MW cA h0 s0_3) H → va_D A (MW cA h0 s0_3) → va_S A s.heap H locs → ∀ ls : Array Slot, lv_has ls 4 [(0, .ref (h0 0)), (2, .int v2_3)] → K38 v2_3 s0_3 = some q → W p l e rm s m ([.ref (h0 0), .int a1] : List Value).toArray below meth c H locs 0 0 (MQ below (xQ D cA A (MW cA h0 q.2) (some (.int q.1))) ([.ref (h0 0), .int a1] : List Value).toArray s 0 0 A) (F0 m 38 ls []) := by
      clear h hP hD hS hl
      intro v2_3 s0_3 H locs hP hD hS ls hl h
      rw [eK38] at h
      refine lv_aload_n hx hb dX13_passes_38 rfl (lv_at hl 0 rfl) ?_
      refine lv_iload_n hx hb dX13_passes_39 rfl (lv_at hl 1 rfl) ?_
      obtain ⟨q4, c4, h⟩ := x_call h
      refine xCall (w2 := MW cA h0 q4.2) (xRunV (n := 1) (As := [.int v2_3]) (rest := []) ⟨hx, hb, hml, hown, hts⟩ (kX13_done l D cA h0 _ N v2_3 s0_3 q4 c4) qco_X13_done qml_X13_60 qin_X13_done qse_X13_done qini_X13 (by decide +kernel) (by rw [← erm]; rfl) hK hP hD [0, 1, 2, 3, 4, 5, 6, 7] rfl rfl (q0 := 0) rfl rfl rfl rfl rfl hl.1 rfl (lv_room (Nat.le_of_ble_eq_true rfl)) dX13_passes_40 ⟨Nat.zero_le _, Nat.zero_le _⟩) hP hD hS hA [0, 1, 2, 3, 4, 5, 6, 7] [] [0, 1, 2, 3, 4, 5, 6, 7] rfl (wr := []) rfl rfl rfl rfl rfl (fun H locs hP hD hS => ?_)
      have h := Option.some.inj h
      subst h
      exact xIret hx hb hr hlocks hP hK hD hS dX13_passes_43
    have hL20 : ∀ (n : Nat) (v1_5 : Int32) (v2_5 : Int32) (v3_5 : Int32) (s0_5 : MS) (H : Heap) (locs : List Loc), va_P D vwCl (MW cA h0 s0_5) H → va_D A (MW cA h0 s0_5) → va_S A s.heap H locs → ∀ ls : Array Slot, lv_has ls 4 [(0, .ref (h0 0)), (1, .int v1_5), (2, .int v2_5), (3, .int v3_5)] → fX13_passes_L20 N K38 n v1_5 v2_5 v3_5 s0_5 = some q → W p l e rm s m ([.ref (h0 0), .int a1] : List Value).toArray below meth c H locs 0 0 (MQ below (xQ D cA A (MW cA h0 q.2) (some (.int q.1))) ([.ref (h0 0), .int a1] : List Value).toArray s 0 0 A) (F0 m 20 ls []) := by
      clear h hP hD hS hl
      intro n
      induction n with
      | zero => intro v1_5 v2_5 v3_5 s0_5 H locs hP hD hS ls hl h; rw [fX13_passes_L20] at h; cases h
      | succ n ih =>
        intro v1_5 v2_5 v3_5 s0_5 H locs hP hD hS ls hl h
        rw [fX13_passes_L20] at h
        refine lv_iload_n hx hb dX13_passes_20 rfl (lv_at hl 3 rfl) ?_
        refine lv_iload_n hx hb dX13_passes_21 rfl (lv_at hl 1 rfl) ?_
        refine lv_icmp_ge (tgt := 38) hx hb dX13_passes_22 (by decide) (fun c6 => ?_) (fun c6 => ?_)
        · have h := x_t h c6
          exact hJ_K38 v2_5 s0_5 _ _ hP hD hS _ (lv_sub hl [0, 2] rfl) h
        · have h := x_f h c6
          refine lv_iload_n hx hb dX13_passes_25 rfl (lv_at hl 2 rfl) ?_
          refine lv_aload_n hx hb dX13_passes_26 rfl (lv_at hl 0 rfl) ?_
          obtain ⟨q7, c7, h⟩ := x_call h
          refine xCall (w2 := MW cA h0 q7.2) (xRunV (n := 0) (As := []) (rest := [.int v2_5]) ⟨hx, hb, hml, hown, hts⟩ (kX13_passesHour l D cA h0 _ N s0_5 q7 c7) qco_X13_passesHour qml_X13_111 qin_X13_passesHour qse_X13_passesHour qini_X13 (by decide +kernel) (by rw [← erm]; rfl) hK hP hD [0, 1, 2, 3, 4, 5, 6, 7] rfl rfl (q0 := 0) rfl rfl rfl rfl rfl hl.1 rfl (lv_room (Nat.le_of_ble_eq_true rfl)) dX13_passes_27 ⟨Nat.zero_le _, Nat.zero_le _⟩) hP hD hS hA [0, 1, 2, 3, 4, 5, 6, 7] [] [0, 1, 2, 3, 4, 5, 6, 7] rfl (wr := []) rfl rfl rfl rfl rfl (fun H locs hP hD hS => ?_)
          refine lv_iadd hx hb dX13_passes_30 ?_
          refine lv_topi (fun x8 ex8 => ?_)
          have h := x_let h ex8
          refine lv_istore_n (lv' := [(2, .int x8), (0, .ref (h0 0)), (1, .int v1_5), (3, .int v3_5)]) hx hb dX13_passes_31 rfl hl (by decide) rfl (fun ls hl => ?_)
          obtain ⟨x9, ex9⟩ : ∃ y : Int32, y = v3_5 + (1) := ⟨_, rfl⟩
          have h := x_let h ex9
          refine lv_iinc (v := x9) (lv' := [(3, .int x9), (2, .int x8), (0, .ref (h0 0)), (1, .int v1_5)]) hx hb dX13_passes_32 hl (k := 3) rfl (by rw [ex9]; rfl) (by decide) rfl (fun ls hl => ?_)
          refine lv_goto (tgt := 20) hx hb dX13_passes_35 (by decide) ?_
          exact ih v1_5 x8 x9 q7.2 _ _ hP hD hS _ (lv_sub hl [2, 3, 1, 0] rfl) h
    exact hL20 N a1 0 0 s0 _ _ hP hD hS _ (lv_sub hl [2, 3, 1, 0] rfl) h
  · have h := x_t h c2
    refine lv_aload_n hx hb dX13_passes_10 rfl (lv_at hl 0 rfl) ?_
    refine lv_iconst (v := 1) hx hb dX13_passes_11 (by decide) ?_
    obtain ⟨q10, c10, h⟩ := x_call h
    refine xCall (w2 := MW cA h0 q10.2) (xRunV (n := 1) (As := [.int 1]) (rest := []) ⟨hx, hb, hml, hown, hts⟩ (kX13_fails l D cA h0 _ N 1 s0 q10 c10) qco_X13_fails qml_X13_57 qin_X13_fails qse_X13_fails qini_X13 (by decide +kernel) (by rw [← erm]; rfl) hK hP hD [0, 1, 2, 3, 4, 5, 6, 7] rfl rfl (q0 := 0) rfl rfl rfl rfl rfl hl.1 rfl (lv_room (Nat.le_of_ble_eq_true rfl)) dX13_passes_12 ⟨Nat.zero_le _, Nat.zero_le _⟩) hP hD hS hA [0, 1, 2, 3, 4, 5, 6, 7] [] [0, 1, 2, 3, 4, 5, 6, 7] rfl (wr := []) rfl rfl rfl rfl rfl (fun H locs hP hD hS => ?_)
    have h := Option.some.inj h
    subst h
    exact xIret hx hb hr hlocks hP hK hD hS dX13_passes_15
def fX13_passHours (N : Nat) (a1 : Int32) (s0 : MS) : Option (Int32 × MS) :=
  xcall (fX13_begin N s0) fun q1 =>
  xcall (fX13_passes N a1 q1) fun q2 =>
  xcall (fX13_kept N q2.1 q2.2) fun q3 =>
  some (q3.1, q3.2)
set_option maxRecDepth 100000 in
set_option maxHeartbeats 4000000 in
theorem kX13_passHours (l : Launch) (D : va_G) (cA : Nat → ClassId) (h0 : Nat → Nat) (sz N : Nat) (a1 : Int32) (s0 : MS) (q : Int32 × MS) (h : fX13_passHours N a1 s0 = some q) : xM l yX13_passHours cX13_passHours 2 (some .int) ({ frames := 4, cells := 0, slots := 0, locals := 89 }) D cA (MW cA h0 s0) sz [.ref (h0 0), .int a1] (some (.int q.1)) (MW cA h0 q.2) := by
  generalize erm : ({ frames := 4, cells := 0, slots := 0, locals := 89 } : Room) = rm
  refine xMet (by decide) (Nat.le_of_ble_eq_true rfl) ?_
  intro p e s m below meth c hx hb hr hlocks hml hts hown hin hK hP A eA hD hS hA hsz ls hl
  have hl : lv_has ls 2 [(0, .ref (h0 0)), (1, .int a1)] := hl
  clear eA
  rw [fX13_passHours] at h
  refine lv_aload_n hx hb dX13_passHours_0 rfl (lv_at hl 0 rfl) ?_
  obtain ⟨q1, c1, h⟩ := x_call h
  refine xCall (w2 := MW cA h0 q1) (xRunV (n := 0) (As := []) (rest := []) ⟨hx, hb, hml, hown, hts⟩ (kX13_begin l D cA h0 _ N s0 q1 c1) qco_X13_begin qml_X13_63 qin_X13_begin qse_X13_begin qini_X13 (by decide +kernel) (by rw [← erm]; rfl) hK hP hD [0, 1, 2, 3, 4, 5, 6, 7] rfl rfl (q0 := 0) rfl rfl rfl rfl rfl hl.1 rfl (lv_room (Nat.le_of_ble_eq_true rfl)) dX13_passHours_1 ⟨Nat.zero_le _, Nat.zero_le _⟩) hP hD hS hA [0, 1, 2, 3, 4, 5, 6, 7] [] [0, 1, 2, 3, 4, 5, 6, 7] rfl (wr := []) rfl rfl rfl rfl rfl (fun H locs hP hD hS => ?_)
  refine lv_aload_n hx hb dX13_passHours_4 rfl (lv_at hl 0 rfl) ?_
  refine lv_aload_n hx hb dX13_passHours_5 rfl (lv_at hl 0 rfl) ?_
  refine lv_iload_n hx hb dX13_passHours_6 rfl (lv_at hl 1 rfl) ?_
  obtain ⟨q2, c2, h⟩ := x_call h
  refine xCall (w2 := MW cA h0 q2.2) (xRunV (n := 1) (As := [.int a1]) (rest := [.ref (h0 0)]) ⟨hx, hb, hml, hown, hts⟩ (kX13_passes l D cA h0 _ N a1 q1 q2 c2) qco_X13_passes qml_X13_115 qin_X13_passes qse_X13_passes qini_X13 (by decide +kernel) (by rw [← erm]; rfl) hK hP hD [0, 1, 2, 3, 4, 5, 6, 7] rfl rfl (q0 := 0) rfl rfl rfl rfl rfl hl.1 rfl (lv_room (Nat.le_of_ble_eq_true rfl)) dX13_passHours_7 ⟨Nat.zero_le _, Nat.zero_le _⟩) hP hD hS hA [0, 1, 2, 3, 4, 5, 6, 7] [] [0, 1, 2, 3, 4, 5, 6, 7] rfl (wr := []) rfl rfl rfl rfl rfl (fun H locs hP hD hS => ?_)
  obtain ⟨q3, c3, h⟩ := x_call h
  refine xCall (w2 := MW cA h0 q3.2) (xRunV (n := 1) (As := [.int q2.1]) (rest := []) ⟨hx, hb, hml, hown, hts⟩ (kX13_kept l D cA h0 _ N q2.1 q2.2 q3 c3) qco_X13_kept qml_X13_74 qin_X13_kept qse_X13_kept qini_X13 (by decide +kernel) (by rw [← erm]; rfl) hK hP hD [0, 1, 2, 3, 4, 5, 6, 7] rfl rfl (q0 := 0) rfl rfl rfl rfl rfl hl.1 rfl (lv_room (Nat.le_of_ble_eq_true rfl)) dX13_passHours_10 ⟨Nat.zero_le _, Nat.zero_le _⟩) hP hD hS hA [0, 1, 2, 3, 4, 5, 6, 7] [] [0, 1, 2, 3, 4, 5, 6, 7] rfl (wr := []) rfl rfl rfl rfl rfl (fun H locs hP hD hS => ?_)
  have h := Option.some.inj h
  subst h
  exact xIret hx hb hr hlocks hP hK hD hS dX13_passHours_13
def fX13_costumes_L4 (N : Nat) (s0 : MS) (K33 : Int32 → Option (Int32)) : Nat → Int32 → Int32 → Option (Int32)
  | 0, _, _ => none
  | n + 1, v1_2, v2_2 =>
    if (s0.1 5) ≤ v2_2 then
      K33 v1_2
    else
      xrd 229 (193 + v2_2) fun k4 =>
      xlet (v1_2 + (s0.1 k4)) fun x5 =>
      xlet (v2_2 + (1)) fun x6 =>
      fX13_costumes_L4 N s0 K33 n x5 x6
def fX13_costumes (N : Nat)  (s0 : MS) : Option (Int32) :=
  xjoin (fun (v1_1 : Int32) =>
      some v1_1
    ) fun K33 =>
  fX13_costumes_L4 N s0 K33 N 0 0
set_option maxRecDepth 100000 in
set_option maxHeartbeats 4000000 in
theorem kX13_costumes (l : Launch) (D : va_G) (cA : Nat → ClassId) (h0 : Nat → Nat) (sz N : Nat)  (s0 : MS) (q : Int32) (h : fX13_costumes N s0 = some q) : xM l yX13_costumes cX13_costumes 3 (some .int) ({ frames := 0, cells := 0, slots := 0, locals := 0 }) D cA (MW cA h0 s0) sz [.ref (h0 0)] (some (.int q)) (MW cA h0 s0) := by
  generalize erm : ({ frames := 0, cells := 0, slots := 0, locals := 0 } : Room) = rm
  refine xMet (by decide) (Nat.le_of_ble_eq_true rfl) ?_
  intro p e s m below meth c hx hb hr hlocks hml hts hown hin hK hP A eA hD hS hA hsz ls hl
  have hl : lv_has ls 3 [(0, .ref (h0 0))] := hl
  clear eA
  rw [fX13_costumes] at h
  refine lv_iconst (v := 0) hx hb dX13_costumes_0 (by decide) ?_
  refine lv_istore_n (lv' := [(1, .int 0), (0, .ref (h0 0))]) hx hb dX13_costumes_1 rfl hl (by decide) rfl (fun ls hl => ?_)
  refine lv_iconst (v := 0) hx hb dX13_costumes_2 (by decide) ?_
  refine lv_istore_n (lv' := [(2, .int 0), (1, .int 0), (0, .ref (h0 0))]) hx hb dX13_costumes_3 rfl hl (by decide) rfl (fun ls hl => ?_)
  obtain ⟨K33, eK33, h⟩ := x_join h
  have hJ_K33 : ∀ (v1_1 : Int32) (H : Heap) (locs : List Loc), va_P D vwCl (MW cA h0 s0) H → va_D A (MW cA h0 s0) → va_S A s.heap H locs → ∀ ls : Array Slot, lv_has ls 3 [(1, .int v1_1)] → K33 v1_1 = some q → W p l e rm s m ([.ref (h0 0)] : List Value).toArray below meth c H locs 0 0 (MQ below (xQ D cA A (MW cA h0 s0) (some (.int q))) ([.ref (h0 0)] : List Value).toArray s 0 0 A) (F0 m 33 ls []) := by
    clear h hP hD hS hl
    intro v1_1 H locs hP hD hS ls hl h
    rw [eK33] at h
    refine lv_iload_n hx hb dX13_costumes_33 rfl (lv_at hl 0 rfl) ?_
    have h := Option.some.inj h
    subst h
    exact xIret hx hb hr hlocks hP hK hD hS dX13_costumes_34
  have hL4 : ∀ (n : Nat) (v1_2 : Int32) (v2_2 : Int32) (H : Heap) (locs : List Loc), va_P D vwCl (MW cA h0 s0) H → va_D A (MW cA h0 s0) → va_S A s.heap H locs → ∀ ls : Array Slot, lv_has ls 3 [(0, .ref (h0 0)), (1, .int v1_2), (2, .int v2_2)] → fX13_costumes_L4 N s0 K33 n v1_2 v2_2 = some q → W p l e rm s m ([.ref (h0 0)] : List Value).toArray below meth c H locs 0 0 (MQ below (xQ D cA A (MW cA h0 s0) (some (.int q))) ([.ref (h0 0)] : List Value).toArray s 0 0 A) (F0 m 4 ls []) := by
    clear h hP hD hS hl
    intro n
    induction n with
    | zero => intro v1_2 v2_2 H locs hP hD hS ls hl h; rw [fX13_costumes_L4] at h; cases h
    | succ n ih =>
      intro v1_2 v2_2 H locs hP hD hS ls hl h
      rw [fX13_costumes_L4] at h
      refine lv_iload_n hx hb dX13_costumes_4 rfl (lv_at hl 2 rfl) ?_
      refine lv_aload_n hx hb dX13_costumes_5 rfl (lv_at hl 0 rfl) ?_
      refine va_get (D := D) (ci := 12) (v := .ref (h0 1)) (C := RX13) (T := TX13) (N := 16) hx hb hts iX13 hown hK hP 0 rfl rfl 0 (by decide) (hts _ qfl_X13_7) (fun _ h9 => h9) rfl dX13_costumes_6 ?_
      refine lv_iconst (v := 5) hx hb dX13_costumes_9 (by decide) ?_
      refine xIald hx hb hK hP 1 0 rfl rfl (x_lit (k := 5) (by decide)) dX13_costumes_10 ?_
      refine lv_icmp_ge (tgt := 33) hx hb dX13_costumes_11 (by decide) (fun c3 => ?_) (fun c3 => ?_)
      · have h := x_t h c3
        exact hJ_K33 v1_2 _ _ hP hD hS _ (lv_sub hl [1] rfl) h
      · have h := x_f h c3
        refine lv_iload_n hx hb dX13_costumes_14 rfl (lv_at hl 1 rfl) ?_
        refine lv_aload_n hx hb dX13_costumes_15 rfl (lv_at hl 0 rfl) ?_
        refine va_get (D := D) (ci := 12) (v := .ref (h0 1)) (C := RX13) (T := TX13) (N := 16) hx hb hts iX13 hown hK hP 0 rfl rfl 0 (by decide) (hts _ qfl_X13_7) (fun _ h9 => h9) rfl dX13_costumes_16 ?_
        refine lv_sipush (v := 193) hx hb dX13_costumes_19 (by decide) ?_
        refine lv_iload_n hx hb dX13_costumes_22 rfl (lv_at hl 2 rfl) ?_
        refine lv_iadd hx hb dX13_costumes_23 ?_
        obtain ⟨k4, hk4, h⟩ := x_rd h
        refine xIald hx hb hK hP 1 0 rfl rfl hk4 dX13_costumes_24 ?_
        refine lv_iadd hx hb dX13_costumes_25 ?_
        refine lv_topi (fun x5 ex5 => ?_)
        have h := x_let h ex5
        refine lv_istore_n (lv' := [(1, .int x5), (0, .ref (h0 0)), (2, .int v2_2)]) hx hb dX13_costumes_26 rfl hl (by decide) rfl (fun ls hl => ?_)
        obtain ⟨x6, ex6⟩ : ∃ y : Int32, y = v2_2 + (1) := ⟨_, rfl⟩
        have h := x_let h ex6
        refine lv_iinc (v := x6) (lv' := [(2, .int x6), (1, .int x5), (0, .ref (h0 0))]) hx hb dX13_costumes_27 hl (k := 2) rfl (by rw [ex6]; rfl) (by decide) rfl (fun ls hl => ?_)
        refine lv_goto (tgt := 4) hx hb dX13_costumes_30 (by decide) ?_
        exact ih x5 x6 _ _ hP hD hS _ (lv_sub hl [2, 1, 0] rfl) h
  exact hL4 N 0 0 _ _ hP hD hS _ (lv_sub hl [2, 1, 0] rfl) h
def fX13_costOfFirst_L7 (N : Nat) (s0 : MS) (K78 : Int32 → Option (Int32)) : Nat → Int32 → Int32 → Int32 → Option (Int32)
  | 0, _, _, _ => none
  | n + 1, v2_2, v3_2, v4_2 =>
    if (s0.1 5) ≤ v4_2 then
      K78 v2_2
    else
      xrd 229 (193 + v4_2) fun k4 =>
      xjoin (fun (t0_5 : Int32) (v2_5 : Int32) (v3_5 : Int32) (v4_5 : Int32) =>
          xrd 229 (201 + v4_5) fun k6 =>
          xlet (v2_5 + (t0_5 * (s0.1 k6))) fun x7 =>
          xlet (v3_5 - t0_5) fun x8 =>
          xlet (v4_5 + (1)) fun x9 =>
          fX13_costOfFirst_L7 N s0 K78 n x7 x8 x9
        ) fun J48 =>
      if (s0.1 k4) ≤ v3_2 then
        xrd 229 (193 + v4_2) fun k11 =>
        J48 (s0.1 k11) v2_2 v3_2 v4_2
      else
        J48 v3_2 v2_2 v3_2 v4_2
def fX13_costOfFirst (N : Nat) (a1 : Int32) (s0 : MS) : Option (Int32) :=
  xjoin (fun (v2_1 : Int32) =>
      some v2_1
    ) fun K78 =>
  fX13_costOfFirst_L7 N s0 K78 N 0 a1 0
set_option maxRecDepth 100000 in
set_option maxHeartbeats 4000000 in
theorem kX13_costOfFirst (l : Launch) (D : va_G) (cA : Nat → ClassId) (h0 : Nat → Nat) (sz N : Nat) (a1 : Int32) (s0 : MS) (q : Int32) (h : fX13_costOfFirst N a1 s0 = some q) : xM l yX13_costOfFirst cX13_costOfFirst 6 (some .int) ({ frames := 0, cells := 0, slots := 0, locals := 0 }) D cA (MW cA h0 s0) sz [.ref (h0 0), .int a1] (some (.int q)) (MW cA h0 s0) := by
  generalize erm : ({ frames := 0, cells := 0, slots := 0, locals := 0 } : Room) = rm
  refine xMet (by decide) (Nat.le_of_ble_eq_true rfl) ?_
  intro p e s m below meth c hx hb hr hlocks hml hts hown hin hK hP A eA hD hS hA hsz ls hl
  have hl : lv_has ls 6 [(0, .ref (h0 0)), (1, .int a1)] := hl
  clear eA
  rw [fX13_costOfFirst] at h
  refine lv_iconst (v := 0) hx hb dX13_costOfFirst_0 (by decide) ?_
  refine lv_istore_n (lv' := [(2, .int 0), (0, .ref (h0 0)), (1, .int a1)]) hx hb dX13_costOfFirst_1 rfl hl (by decide) rfl (fun ls hl => ?_)
  refine lv_iload_n hx hb dX13_costOfFirst_2 rfl (lv_at hl 2 rfl) ?_
  refine lv_istore_n (lv' := [(3, .int a1), (2, .int 0), (0, .ref (h0 0)), (1, .int a1)]) hx hb dX13_costOfFirst_3 rfl hl (by decide) rfl (fun ls hl => ?_)
  refine lv_iconst (v := 0) hx hb dX13_costOfFirst_4 (by decide) ?_
  refine lv_istore (lv' := [(4, .int 0), (3, .int a1), (2, .int 0), (0, .ref (h0 0)), (1, .int a1)]) hx hb dX13_costOfFirst_5 hl (by decide) rfl (fun ls hl => ?_)
  obtain ⟨K78, eK78, h⟩ := x_join h
  have hJ_K78 : ∀ (v2_1 : Int32) (H : Heap) (locs : List Loc), va_P D vwCl (MW cA h0 s0) H → va_D A (MW cA h0 s0) → va_S A s.heap H locs → ∀ ls : Array Slot, lv_has ls 6 [(2, .int v2_1)] → K78 v2_1 = some q → W p l e rm s m ([.ref (h0 0), .int a1] : List Value).toArray below meth c H locs 0 0 (MQ below (xQ D cA A (MW cA h0 s0) (some (.int q))) ([.ref (h0 0), .int a1] : List Value).toArray s 0 0 A) (F0 m 78 ls []) := by
    clear h hP hD hS hl
    intro v2_1 H locs hP hD hS ls hl h
    rw [eK78] at h
    refine lv_iload_n hx hb dX13_costOfFirst_78 rfl (lv_at hl 0 rfl) ?_
    have h := Option.some.inj h
    subst h
    exact xIret hx hb hr hlocks hP hK hD hS dX13_costOfFirst_79
  have hL7 : ∀ (n : Nat) (v2_2 : Int32) (v3_2 : Int32) (v4_2 : Int32) (H : Heap) (locs : List Loc), va_P D vwCl (MW cA h0 s0) H → va_D A (MW cA h0 s0) → va_S A s.heap H locs → ∀ ls : Array Slot, lv_has ls 6 [(0, .ref (h0 0)), (2, .int v2_2), (3, .int v3_2), (4, .int v4_2)] → fX13_costOfFirst_L7 N s0 K78 n v2_2 v3_2 v4_2 = some q → W p l e rm s m ([.ref (h0 0), .int a1] : List Value).toArray below meth c H locs 0 0 (MQ below (xQ D cA A (MW cA h0 s0) (some (.int q))) ([.ref (h0 0), .int a1] : List Value).toArray s 0 0 A) (F0 m 7 ls []) := by
    clear h hP hD hS hl
    intro n
    induction n with
    | zero => intro v2_2 v3_2 v4_2 H locs hP hD hS ls hl h; rw [fX13_costOfFirst_L7] at h; cases h
    | succ n ih =>
      intro v2_2 v3_2 v4_2 H locs hP hD hS ls hl h
      rw [fX13_costOfFirst_L7] at h
      refine lv_iload hx hb dX13_costOfFirst_7 (lv_at hl 3 rfl) ?_
      refine lv_aload_n hx hb dX13_costOfFirst_9 rfl (lv_at hl 0 rfl) ?_
      refine va_get (D := D) (ci := 12) (v := .ref (h0 1)) (C := RX13) (T := TX13) (N := 16) hx hb hts iX13 hown hK hP 0 rfl rfl 0 (by decide) (hts _ qfl_X13_7) (fun _ h9 => h9) rfl dX13_costOfFirst_10 ?_
      refine lv_iconst (v := 5) hx hb dX13_costOfFirst_13 (by decide) ?_
      refine xIald hx hb hK hP 1 0 rfl rfl (x_lit (k := 5) (by decide)) dX13_costOfFirst_14 ?_
      refine lv_icmp_ge (tgt := 78) hx hb dX13_costOfFirst_15 (by decide) (fun c3 => ?_) (fun c3 => ?_)
      · have h := x_t h c3
        exact hJ_K78 v2_2 _ _ hP hD hS _ (lv_sub hl [1] rfl) h
      · have h := x_f h c3
        refine lv_iload_n hx hb dX13_costOfFirst_18 rfl (lv_at hl 2 rfl) ?_
        refine lv_aload_n hx hb dX13_costOfFirst_19 rfl (lv_at hl 0 rfl) ?_
        refine va_get (D := D) (ci := 12) (v := .ref (h0 1)) (C := RX13) (T := TX13) (N := 16) hx hb hts iX13 hown hK hP 0 rfl rfl 0 (by decide) (hts _ qfl_X13_7) (fun _ h9 => h9) rfl dX13_costOfFirst_20 ?_
        refine lv_sipush (v := 193) hx hb dX13_costOfFirst_23 (by decide) ?_
        refine lv_iload hx hb dX13_costOfFirst_26 (lv_at hl 3 rfl) ?_
        refine lv_iadd hx hb dX13_costOfFirst_28 ?_
        obtain ⟨k4, hk4, h⟩ := x_rd h
        refine xIald hx hb hK hP 1 0 rfl rfl hk4 dX13_costOfFirst_29 ?_
        obtain ⟨J48, eJ48, h⟩ := x_join h
        have hJ_J48 : ∀ (t0_5 : Int32) (v2_5 : Int32) (v3_5 : Int32) (v4_5 : Int32) (H : Heap) (locs : List Loc), va_P D vwCl (MW cA h0 s0) H → va_D A (MW cA h0 s0) → va_S A s.heap H locs → ∀ ls : Array Slot, lv_has ls 6 [(0, .ref (h0 0)), (2, .int v2_5), (3, .int v3_5), (4, .int v4_5)] → J48 t0_5 v2_5 v3_5 v4_5 = some q → W p l e rm s m ([.ref (h0 0), .int a1] : List Value).toArray below meth c H locs 0 0 (MQ below (xQ D cA A (MW cA h0 s0) (some (.int q))) ([.ref (h0 0), .int a1] : List Value).toArray s 0 0 A) (F0 m 48 ls [.int t0_5]) := by
          clear h hP hD hS hl
          intro t0_5 v2_5 v3_5 v4_5 H locs hP hD hS ls hl h
          rw [eJ48] at h
          refine lv_istore (lv' := [(5, .int t0_5), (0, .ref (h0 0)), (2, .int v2_5), (3, .int v3_5), (4, .int v4_5)]) hx hb dX13_costOfFirst_48 hl (by decide) rfl (fun ls hl => ?_)
          refine lv_iload_n hx hb dX13_costOfFirst_50 rfl (lv_at hl 2 rfl) ?_
          refine lv_iload hx hb dX13_costOfFirst_51 (lv_at hl 0 rfl) ?_
          refine lv_aload_n hx hb dX13_costOfFirst_53 rfl (lv_at hl 1 rfl) ?_
          refine va_get (D := D) (ci := 12) (v := .ref (h0 1)) (C := RX13) (T := TX13) (N := 16) hx hb hts iX13 hown hK hP 0 rfl rfl 0 (by decide) (hts _ qfl_X13_7) (fun _ h9 => h9) rfl dX13_costOfFirst_54 ?_
          refine lv_sipush (v := 201) hx hb dX13_costOfFirst_57 (by decide) ?_
          refine lv_iload hx hb dX13_costOfFirst_60 (lv_at hl 4 rfl) ?_
          refine lv_iadd hx hb dX13_costOfFirst_62 ?_
          obtain ⟨k6, hk6, h⟩ := x_rd h
          refine xIald hx hb hK hP 1 0 rfl rfl hk6 dX13_costOfFirst_63 ?_
          refine lv_imul hx hb dX13_costOfFirst_64 ?_
          refine lv_iadd hx hb dX13_costOfFirst_65 ?_
          refine lv_topi (fun x7 ex7 => ?_)
          have h := x_let h ex7
          refine lv_istore_n (lv' := [(2, .int x7), (5, .int t0_5), (0, .ref (h0 0)), (3, .int v3_5), (4, .int v4_5)]) hx hb dX13_costOfFirst_66 rfl hl (by decide) rfl (fun ls hl => ?_)
          refine lv_iload_n hx hb dX13_costOfFirst_67 rfl (lv_at hl 3 rfl) ?_
          refine lv_iload hx hb dX13_costOfFirst_68 (lv_at hl 1 rfl) ?_
          refine lv_isub hx hb dX13_costOfFirst_70 ?_
          refine lv_topi (fun x8 ex8 => ?_)
          have h := x_let h ex8
          refine lv_istore_n (lv' := [(3, .int x8), (2, .int x7), (5, .int t0_5), (0, .ref (h0 0)), (4, .int v4_5)]) hx hb dX13_costOfFirst_71 rfl hl (by decide) rfl (fun ls hl => ?_)
          obtain ⟨x9, ex9⟩ : ∃ y : Int32, y = v4_5 + (1) := ⟨_, rfl⟩
          have h := x_let h ex9
          refine lv_iinc (v := x9) (lv' := [(4, .int x9), (3, .int x8), (2, .int x7), (5, .int t0_5), (0, .ref (h0 0))]) hx hb dX13_costOfFirst_72 hl (k := 4) rfl (by rw [ex9]; rfl) (by decide) rfl (fun ls hl => ?_)
          refine lv_goto (tgt := 7) hx hb dX13_costOfFirst_75 (by decide) ?_
          exact ih x7 x8 x9 _ _ hP hD hS _ (lv_sub hl [4, 2, 1, 0] rfl) h
        refine lv_icmp_ge (tgt := 37) hx hb dX13_costOfFirst_30 (by decide) (fun c10 => ?_) (fun c10 => ?_)
        · have h := x_t h c10
          refine lv_aload_n hx hb dX13_costOfFirst_37 rfl (lv_at hl 0 rfl) ?_
          refine va_get (D := D) (ci := 12) (v := .ref (h0 1)) (C := RX13) (T := TX13) (N := 16) hx hb hts iX13 hown hK hP 0 rfl rfl 0 (by decide) (hts _ qfl_X13_7) (fun _ h9 => h9) rfl dX13_costOfFirst_38 ?_
          refine lv_sipush (v := 193) hx hb dX13_costOfFirst_41 (by decide) ?_
          refine lv_iload hx hb dX13_costOfFirst_44 (lv_at hl 3 rfl) ?_
          refine lv_iadd hx hb dX13_costOfFirst_46 ?_
          obtain ⟨k11, hk11, h⟩ := x_rd h
          refine xIald hx hb hK hP 1 0 rfl rfl hk11 dX13_costOfFirst_47 ?_
          exact hJ_J48 (s0.1 k11) v2_2 v3_2 v4_2 _ _ hP hD hS _ (lv_sub hl [0, 1, 2, 3] rfl) h
        · have h := x_f h c10
          refine lv_iload_n hx hb dX13_costOfFirst_33 rfl (lv_at hl 2 rfl) ?_
          refine lv_goto (tgt := 48) hx hb dX13_costOfFirst_34 (by decide) ?_
          exact hJ_J48 v3_2 v2_2 v3_2 v4_2 _ _ hP hD hS _ (lv_sub hl [0, 1, 2, 3] rfl) h
  exact hL7 N 0 a1 0 _ _ hP hD hS _ (lv_sub hl [3, 2, 1, 0] rfl) h
def fX13_buys (N : Nat) (a1 : Int32) (a2 : Int32) (s0 : MS) : Option (Int32 × MS) :=
  xcall (fX13_in N a1 1 20) fun q1 =>
  xjoin (fun (s0_2 : MS) =>
      xcall (fX13_fails N 1 s0_2) fun q3 =>
      some (q3.1, q3.2)
    ) fun J20 =>
  if q1 = 0 then
    J20 s0
  else
    xcall (fX13_in N a2 1 40) fun q5 =>
    if q5 = 0 then
      J20 s0
    else
      xlet (s0.1 5) fun x7 =>
      if x7 = 8 then
        xcall (fX13_fails N 2 s0) fun q19 =>
        some (q19.1, q19.2)
      else
        xcall (fX13_balanceOf N 0 s0) fun q9 =>
        if (a1 * a2) ≤ q9 then
          xrd 229 (193 + x7) fun k11 =>
          xlet (upd s0.1 k11 a1) fun g12 =>
          xrd 229 (201 + x7) fun k13 =>
          xlet (upd g12 k13 a2) fun g14 =>
          xlet (upd g14 5 ((g14 5) + 1)) fun g15 =>
          xcall (fX13_enters N 1 0 (a1 * a2) 0 ((Ms0 s0 g15))) fun q16 =>
          xcall (fX13_done N (a1 * a2) q16.2) fun q17 =>
          some (q17.1, q17.2)
        else
          xcall (fX13_fails N 3 s0) fun q18 =>
          some (q18.1, q18.2)
set_option maxRecDepth 100000 in
set_option maxHeartbeats 4000000 in
theorem kX13_buys (l : Launch) (D : va_G) (cA : Nat → ClassId) (h0 : Nat → Nat) (sz N : Nat) (a1 : Int32) (a2 : Int32) (s0 : MS) (q : Int32 × MS) (h : fX13_buys N a1 a2 s0 = some q) : xM l yX13_buys cX13_buys 5 (some .int) ({ frames := 1, cells := 0, slots := 0, locals := 26 }) D cA (MW cA h0 s0) sz [.ref (h0 0), .int a1, .int a2] (some (.int q.1)) (MW cA h0 q.2) := by
  generalize erm : ({ frames := 1, cells := 0, slots := 0, locals := 26 } : Room) = rm
  refine xMet (by decide) (Nat.le_of_ble_eq_true rfl) ?_
  intro p e s m below meth c hx hb hr hlocks hml hts hown hin hK hP A eA hD hS hA hsz ls hl
  have hl : lv_has ls 5 [(0, .ref (h0 0)), (1, .int a1), (2, .int a2)] := hl
  clear eA
  rw [fX13_buys] at h
  refine lv_iload_n hx hb dX13_buys_0 rfl (lv_at hl 1 rfl) ?_
  refine lv_iconst (v := 1) hx hb dX13_buys_1 (by decide) ?_
  refine lv_bipush (v := 20) hx hb dX13_buys_2 (by decide) ?_
  obtain ⟨q1, c1, h⟩ := x_call h
  refine xCall (w2 := MW cA h0 s0) (xRunS (n := 3) (As := [.int a1, .int 1, .int 20]) (rest := []) ⟨hx, hb, hml, hown, hts⟩ (kX13_in l D cA  _ N a1 1 20 q1 c1) qco_X13_in qml_X13_49 qst_X13_in qini_X13 (by decide +kernel) (by rw [← erm]; rfl) hK hP hD [] rfl rfl rfl rfl hl.1 rfl (lv_room (Nat.le_of_ble_eq_true rfl)) dX13_buys_4 ⟨Nat.zero_le _, Nat.zero_le _⟩) hP hD hS hA [] [0, 1, 2, 3, 4, 5, 6, 7] [0, 1, 2, 3, 4, 5, 6, 7] rfl (wr := [(h0 0, .inr (12, [.ref (h0 1), .ref (h0 2), .ref (h0 3), .int (s0.2.2.2.1), .ref (h0 4), .int (s0.2.2.2.2.2.1), .ref (h0 5), .int (s0.2.2.2.2.2.2.2.1), .int (s0.2.2.2.2.2.2.2.2.1), .int (s0.2.2.2.2.2.2.2.2.2.1), .ref (h0 6), .int (s0.2.2.2.2.2.2.2.2.2.2.2.1), .int (s0.2.2.2.2.2.2.2.2.2.2.2.2.1), .int (s0.2.2.2.2.2.2.2.2.2.2.2.2.2.1), .int (s0.2.2.2.2.2.2.2.2.2.2.2.2.2.2.1), .ref (h0 7)])), (h0 1, .inl (cA 0, 229, .inl (s0.1))), (h0 2, .inl (cA 0, 229, .inl (s0.2.1))), (h0 3, .inl (cA 0, 1832, .inl (s0.2.2.1))), (h0 4, .inl (cA 0, 229, .inl (s0.2.2.2.2.1))), (h0 5, .inl (cA 1, 60, .inl (s0.2.2.2.2.2.2.1))), (h0 6, .inl (cA 1, 60, .inl (s0.2.2.2.2.2.2.2.2.2.2.1))), (h0 7, .inl (cA 0, 240, .inl (s0.2.2.2.2.2.2.2.2.2.2.2.2.2.2.2)))]) rfl rfl rfl rfl rfl (fun H locs hP hD hS => ?_)
  obtain ⟨J20, eJ20, h⟩ := x_join h
  have hJ_J20 : ∀ (s0_2 : MS) (H : Heap) (locs : List Loc), va_P D vwCl (MW cA h0 s0_2) H → va_D A (MW cA h0 s0_2) → va_S A s.heap H locs → ∀ ls : Array Slot, lv_has ls 5 [(0, .ref (h0 0))] → J20 s0_2 = some q → W p l e rm s m ([.ref (h0 0), .int a1, .int a2] : List Value).toArray below meth c H locs 0 0 (MQ below (xQ D cA A (MW cA h0 q.2) (some (.int q.1))) ([.ref (h0 0), .int a1, .int a2] : List Value).toArray s 0 0 A) (F0 m 20 ls []) := by
    clear h hP hD hS hl
    intro s0_2 H locs hP hD hS ls hl h
    rw [eJ20] at h
    refine lv_aload_n hx hb dX13_buys_20 rfl (lv_at hl 0 rfl) ?_
    refine lv_iconst (v := 1) hx hb dX13_buys_21 (by decide) ?_
    obtain ⟨q3, c3, h⟩ := x_call h
    refine xCall (w2 := MW cA h0 q3.2) (xRunV (n := 1) (As := [.int 1]) (rest := []) ⟨hx, hb, hml, hown, hts⟩ (kX13_fails l D cA h0 _ N 1 s0_2 q3 c3) qco_X13_fails qml_X13_57 qin_X13_fails qse_X13_fails qini_X13 (by decide +kernel) (by rw [← erm]; rfl) hK hP hD [0, 1, 2, 3, 4, 5, 6, 7] rfl rfl (q0 := 0) rfl rfl rfl rfl rfl hl.1 rfl (lv_room (Nat.le_of_ble_eq_true rfl)) dX13_buys_22 ⟨Nat.zero_le _, Nat.zero_le _⟩) hP hD hS hA [0, 1, 2, 3, 4, 5, 6, 7] [] [0, 1, 2, 3, 4, 5, 6, 7] rfl (wr := []) rfl rfl rfl rfl rfl (fun H locs hP hD hS => ?_)
    have h := Option.some.inj h
    subst h
    exact xIret hx hb hr hlocks hP hK hD hS dX13_buys_25
  refine lv_if_eq (tgt := 20) hx hb dX13_buys_7 (by decide) (fun c4 => ?_) (fun c4 => ?_)
  · have h := x_t h c4
    exact hJ_J20 s0 _ _ hP hD hS _ (lv_sub hl [0] rfl) h
  · have h := x_f h c4
    refine lv_iload_n hx hb dX13_buys_10 rfl (lv_at hl 2 rfl) ?_
    refine lv_iconst (v := 1) hx hb dX13_buys_11 (by decide) ?_
    refine lv_bipush (v := 40) hx hb dX13_buys_12 (by decide) ?_
    obtain ⟨q5, c5, h⟩ := x_call h
    refine xCall (w2 := MW cA h0 s0) (xRunS (n := 3) (As := [.int a2, .int 1, .int 40]) (rest := []) ⟨hx, hb, hml, hown, hts⟩ (kX13_in l D cA  _ N a2 1 40 q5 c5) qco_X13_in qml_X13_49 qst_X13_in qini_X13 (by decide +kernel) (by rw [← erm]; rfl) hK hP hD [] rfl rfl rfl rfl hl.1 rfl (lv_room (Nat.le_of_ble_eq_true rfl)) dX13_buys_14 ⟨Nat.zero_le _, Nat.zero_le _⟩) hP hD hS hA [] [0, 1, 2, 3, 4, 5, 6, 7] [0, 1, 2, 3, 4, 5, 6, 7] rfl (wr := [(h0 0, .inr (12, [.ref (h0 1), .ref (h0 2), .ref (h0 3), .int (s0.2.2.2.1), .ref (h0 4), .int (s0.2.2.2.2.2.1), .ref (h0 5), .int (s0.2.2.2.2.2.2.2.1), .int (s0.2.2.2.2.2.2.2.2.1), .int (s0.2.2.2.2.2.2.2.2.2.1), .ref (h0 6), .int (s0.2.2.2.2.2.2.2.2.2.2.2.1), .int (s0.2.2.2.2.2.2.2.2.2.2.2.2.1), .int (s0.2.2.2.2.2.2.2.2.2.2.2.2.2.1), .int (s0.2.2.2.2.2.2.2.2.2.2.2.2.2.2.1), .ref (h0 7)])), (h0 1, .inl (cA 0, 229, .inl (s0.1))), (h0 2, .inl (cA 0, 229, .inl (s0.2.1))), (h0 3, .inl (cA 0, 1832, .inl (s0.2.2.1))), (h0 4, .inl (cA 0, 229, .inl (s0.2.2.2.2.1))), (h0 5, .inl (cA 1, 60, .inl (s0.2.2.2.2.2.2.1))), (h0 6, .inl (cA 1, 60, .inl (s0.2.2.2.2.2.2.2.2.2.2.1))), (h0 7, .inl (cA 0, 240, .inl (s0.2.2.2.2.2.2.2.2.2.2.2.2.2.2.2)))]) rfl rfl rfl rfl rfl (fun H locs hP hD hS => ?_)
    refine lv_if_ne (tgt := 26) hx hb dX13_buys_17 (by decide) (fun c6 => ?_) (fun c6 => ?_)
    · have h := x_f h c6
      refine lv_aload_n hx hb dX13_buys_26 rfl (lv_at hl 0 rfl) ?_
      refine va_get (D := D) (ci := 12) (v := .ref (h0 1)) (C := RX13) (T := TX13) (N := 16) hx hb hts iX13 hown hK hP 0 rfl rfl 0 (by decide) (hts _ qfl_X13_7) (fun _ h9 => h9) rfl dX13_buys_27 ?_
      refine lv_iconst (v := 5) hx hb dX13_buys_30 (by decide) ?_
      refine xIald hx hb hK hP 1 0 rfl rfl (x_lit (k := 5) (by decide)) dX13_buys_31 ?_
      refine lv_topi (fun x7 ex7 => ?_)
      have h := x_let h ex7
      refine lv_istore_n (lv' := [(3, .int x7), (0, .ref (h0 0)), (1, .int a1), (2, .int a2)]) hx hb dX13_buys_32 rfl hl (by decide) rfl (fun ls hl => ?_)
      refine lv_iload_n hx hb dX13_buys_33 rfl (lv_at hl 0 rfl) ?_
      refine lv_bipush (v := 8) hx hb dX13_buys_34 (by decide) ?_
      refine lv_icmp_ne (tgt := 45) hx hb dX13_buys_36 (by decide) (fun c8 => ?_) (fun c8 => ?_)
      · have h := x_f h c8
        refine lv_aload_n hx hb dX13_buys_45 rfl (lv_at hl 1 rfl) ?_
        refine lv_iconst (v := 0) hx hb dX13_buys_46 (by decide) ?_
        obtain ⟨q9, c9, h⟩ := x_call h
        refine xCall (w2 := MW cA h0 s0) (xRunV (n := 1) (As := [.int 0]) (rest := []) ⟨hx, hb, hml, hown, hts⟩ (kX13_balanceOf l D cA h0 _ N 0 s0 q9 c9) qco_X13_balanceOf qml_X13_53 qin_X13_balanceOf qse_X13_balanceOf qini_X13 (by decide +kernel) (by rw [← erm]; rfl) hK hP hD [0, 1, 2, 3, 4, 5, 6, 7] rfl rfl (q0 := 0) rfl rfl rfl rfl rfl hl.1 rfl (lv_room (Nat.le_of_ble_eq_true rfl)) dX13_buys_47 ⟨Nat.zero_le _, Nat.zero_le _⟩) hP hD hS hA [0, 1, 2, 3, 4, 5, 6, 7] [] [0, 1, 2, 3, 4, 5, 6, 7] rfl (wr := []) rfl rfl rfl rfl rfl (fun H locs hP hD hS => ?_)
        refine lv_iload_n hx hb dX13_buys_50 rfl (lv_at hl 2 rfl) ?_
        refine lv_iload_n hx hb dX13_buys_51 rfl (lv_at hl 3 rfl) ?_
        refine lv_imul hx hb dX13_buys_52 ?_
        refine lv_icmp_ge (tgt := 62) hx hb dX13_buys_53 (by decide) (fun c10 => ?_) (fun c10 => ?_)
        · have h := x_t h c10
          refine lv_aload_n hx hb dX13_buys_62 rfl (lv_at hl 1 rfl) ?_
          refine va_get (D := D) (ci := 12) (v := .ref (h0 1)) (C := RX13) (T := TX13) (N := 16) hx hb hts iX13 hown hK hP 0 rfl rfl 0 (by decide) (hts _ qfl_X13_7) (fun _ h9 => h9) rfl dX13_buys_63 ?_
          refine lv_sipush (v := 193) hx hb dX13_buys_66 (by decide) ?_
          refine lv_iload_n hx hb dX13_buys_69 rfl (lv_at hl 0 rfl) ?_
          refine lv_iadd hx hb dX13_buys_70 ?_
          refine lv_iload_n hx hb dX13_buys_71 rfl (lv_at hl 2 rfl) ?_
          obtain ⟨k11, hk11, h⟩ := x_rd h
          refine xIast (w2 := fun zz => MW cA h0 ((Ms0 s0 zz))) hx hb hK hP hD hS 1 0 rfl rfl hk11 (fun _ => rfl) dX13_buys_72 (fun g12 eg12 H locs hP hD hS => ?_)
          have h := x_let h eg12
          have hP : va_P D vwCl (MW cA h0 ((Ms0 s0 g12))) H := hP
          have hD : va_D A (MW cA h0 ((Ms0 s0 g12))) := hD
          refine lv_aload_n hx hb dX13_buys_73 rfl (lv_at hl 1 rfl) ?_
          refine va_get (D := D) (ci := 12) (v := .ref (h0 1)) (C := RX13) (T := TX13) (N := 16) hx hb hts iX13 hown hK hP 0 rfl rfl 0 (by decide) (hts _ qfl_X13_7) (fun _ h9 => h9) rfl dX13_buys_74 ?_
          refine lv_sipush (v := 201) hx hb dX13_buys_77 (by decide) ?_
          refine lv_iload_n hx hb dX13_buys_80 rfl (lv_at hl 0 rfl) ?_
          refine lv_iadd hx hb dX13_buys_81 ?_
          refine lv_iload_n hx hb dX13_buys_82 rfl (lv_at hl 3 rfl) ?_
          obtain ⟨k13, hk13, h⟩ := x_rd h
          refine xIast (w2 := fun zz => MW cA h0 ((Ms0 s0 zz))) hx hb hK hP hD hS 1 0 rfl rfl hk13 (fun _ => rfl) dX13_buys_83 (fun g14 eg14 H locs hP hD hS => ?_)
          have h := x_let h eg14
          have hP : va_P D vwCl (MW cA h0 ((Ms0 s0 g14))) H := hP
          have hD : va_D A (MW cA h0 ((Ms0 s0 g14))) := hD
          refine lv_aload_n hx hb dX13_buys_84 rfl (lv_at hl 1 rfl) ?_
          refine va_get (D := D) (ci := 12) (v := .ref (h0 1)) (C := RX13) (T := TX13) (N := 16) hx hb hts iX13 hown hK hP 0 rfl rfl 0 (by decide) (hts _ qfl_X13_7) (fun _ h9 => h9) rfl dX13_buys_85 ?_
          refine lv_iconst (v := 5) hx hb dX13_buys_88 (by decide) ?_
          refine lv_dup2_11 hx hb dX13_buys_89 rfl rfl ?_
          refine xIald hx hb hK hP 1 0 rfl rfl (x_lit (k := 5) (by decide)) dX13_buys_90 ?_
          refine lv_iconst (v := 1) hx hb dX13_buys_91 (by decide) ?_
          refine lv_iadd hx hb dX13_buys_92 ?_
          refine xIast (w2 := fun zz => MW cA h0 ((Ms0 s0 zz))) hx hb hK hP hD hS 1 0 rfl rfl (x_lit (k := 5) (by decide)) (fun _ => rfl) dX13_buys_93 (fun g15 eg15 H locs hP hD hS => ?_)
          have h := x_let h eg15
          have hP : va_P D vwCl (MW cA h0 ((Ms0 s0 g15))) H := hP
          have hD : va_D A (MW cA h0 ((Ms0 s0 g15))) := hD
          refine lv_aload_n hx hb dX13_buys_94 rfl (lv_at hl 1 rfl) ?_
          refine lv_iconst (v := 1) hx hb dX13_buys_95 (by decide) ?_
          refine lv_iconst (v := 0) hx hb dX13_buys_96 (by decide) ?_
          refine lv_iload_n hx hb dX13_buys_97 rfl (lv_at hl 2 rfl) ?_
          refine lv_iload_n hx hb dX13_buys_98 rfl (lv_at hl 3 rfl) ?_
          refine lv_imul hx hb dX13_buys_99 ?_
          refine lv_iconst (v := 0) hx hb dX13_buys_100 (by decide) ?_
          obtain ⟨q16, c16, h⟩ := x_call h
          refine xCall (w2 := MW cA h0 q16.2) (xRunV (n := 4) (As := [.int 1, .int 0, .int (a1 * a2), .int 0]) (rest := []) ⟨hx, hb, hml, hown, hts⟩ (kX13_enters l D cA h0 _ N 1 0 (a1 * a2) 0 ((Ms0 s0 g15)) q16 c16) qco_X13_enters qml_X13_84 qin_X13_enters qse_X13_enters qini_X13 (by decide +kernel) (by rw [← erm]; rfl) hK hP hD [0, 1, 2, 3, 4, 5, 6, 7] rfl rfl (q0 := 0) rfl rfl rfl rfl rfl hl.1 rfl (lv_room (Nat.le_of_ble_eq_true rfl)) dX13_buys_101 ⟨Nat.zero_le _, Nat.zero_le _⟩) hP hD hS hA [0, 1, 2, 3, 4, 5, 6, 7] [] [0, 1, 2, 3, 4, 5, 6, 7] rfl (wr := []) rfl rfl rfl rfl rfl (fun H locs hP hD hS => ?_)
          refine lv_istore (lv' := [(4, .int q16.1), (3, .int x7), (0, .ref (h0 0)), (1, .int a1), (2, .int a2)]) hx hb dX13_buys_104 hl (by decide) rfl (fun ls hl => ?_)
          refine lv_aload_n hx hb dX13_buys_106 rfl (lv_at hl 2 rfl) ?_
          refine lv_iload_n hx hb dX13_buys_107 rfl (lv_at hl 3 rfl) ?_
          refine lv_iload_n hx hb dX13_buys_108 rfl (lv_at hl 4 rfl) ?_
          refine lv_imul hx hb dX13_buys_109 ?_
          obtain ⟨q17, c17, h⟩ := x_call h
          refine xCall (w2 := MW cA h0 q17.2) (xRunV (n := 1) (As := [.int (a1 * a2)]) (rest := []) ⟨hx, hb, hml, hown, hts⟩ (kX13_done l D cA h0 _ N (a1 * a2) q16.2 q17 c17) qco_X13_done qml_X13_60 qin_X13_done qse_X13_done qini_X13 (by decide +kernel) (by rw [← erm]; rfl) hK hP hD [0, 1, 2, 3, 4, 5, 6, 7] rfl rfl (q0 := 0) rfl rfl rfl rfl rfl hl.1 rfl (lv_room (Nat.le_of_ble_eq_true rfl)) dX13_buys_110 ⟨Nat.zero_le _, Nat.zero_le _⟩) hP hD hS hA [0, 1, 2, 3, 4, 5, 6, 7] [] [0, 1, 2, 3, 4, 5, 6, 7] rfl (wr := []) rfl rfl rfl rfl rfl (fun H locs hP hD hS => ?_)
          have h := Option.some.inj h
          subst h
          exact xIret hx hb hr hlocks hP hK hD hS dX13_buys_113
        · have h := x_f h c10
          refine lv_aload_n hx hb dX13_buys_56 rfl (lv_at hl 1 rfl) ?_
          refine lv_iconst (v := 3) hx hb dX13_buys_57 (by decide) ?_
          obtain ⟨q18, c18, h⟩ := x_call h
          refine xCall (w2 := MW cA h0 q18.2) (xRunV (n := 1) (As := [.int 3]) (rest := []) ⟨hx, hb, hml, hown, hts⟩ (kX13_fails l D cA h0 _ N 3 s0 q18 c18) qco_X13_fails qml_X13_57 qin_X13_fails qse_X13_fails qini_X13 (by decide +kernel) (by rw [← erm]; rfl) hK hP hD [0, 1, 2, 3, 4, 5, 6, 7] rfl rfl (q0 := 0) rfl rfl rfl rfl rfl hl.1 rfl (lv_room (Nat.le_of_ble_eq_true rfl)) dX13_buys_58 ⟨Nat.zero_le _, Nat.zero_le _⟩) hP hD hS hA [0, 1, 2, 3, 4, 5, 6, 7] [] [0, 1, 2, 3, 4, 5, 6, 7] rfl (wr := []) rfl rfl rfl rfl rfl (fun H locs hP hD hS => ?_)
          have h := Option.some.inj h
          subst h
          exact xIret hx hb hr hlocks hP hK hD hS dX13_buys_61
      · have h := x_t h c8
        refine lv_aload_n hx hb dX13_buys_39 rfl (lv_at hl 1 rfl) ?_
        refine lv_iconst (v := 2) hx hb dX13_buys_40 (by decide) ?_
        obtain ⟨q19, c19, h⟩ := x_call h
        refine xCall (w2 := MW cA h0 q19.2) (xRunV (n := 1) (As := [.int 2]) (rest := []) ⟨hx, hb, hml, hown, hts⟩ (kX13_fails l D cA h0 _ N 2 s0 q19 c19) qco_X13_fails qml_X13_57 qin_X13_fails qse_X13_fails qini_X13 (by decide +kernel) (by rw [← erm]; rfl) hK hP hD [0, 1, 2, 3, 4, 5, 6, 7] rfl rfl (q0 := 0) rfl rfl rfl rfl rfl hl.1 rfl (lv_room (Nat.le_of_ble_eq_true rfl)) dX13_buys_41 ⟨Nat.zero_le _, Nat.zero_le _⟩) hP hD hS hA [0, 1, 2, 3, 4, 5, 6, 7] [] [0, 1, 2, 3, 4, 5, 6, 7] rfl (wr := []) rfl rfl rfl rfl rfl (fun H locs hP hD hS => ?_)
        have h := Option.some.inj h
        subst h
        exact xIret hx hb hr hlocks hP hK hD hS dX13_buys_44
    · have h := x_t h c6
      exact hJ_J20 s0 _ _ hP hD hS _ (lv_sub hl [0] rfl) h
def fX13_buy (N : Nat) (a1 : Int32) (a2 : Int32) (s0 : MS) : Option (Int32 × MS) :=
  xcall (fX13_begin N s0) fun q1 =>
  xcall (fX13_buys N a1 a2 q1) fun q2 =>
  xcall (fX13_kept N q2.1 q2.2) fun q3 =>
  some (q3.1, q3.2)
set_option maxRecDepth 100000 in
set_option maxHeartbeats 4000000 in
theorem kX13_buy (l : Launch) (D : va_G) (cA : Nat → ClassId) (h0 : Nat → Nat) (sz N : Nat) (a1 : Int32) (a2 : Int32) (s0 : MS) (q : Int32 × MS) (h : fX13_buy N a1 a2 s0 = some q) : xM l yX13_buy cX13_buy 3 (some .int) ({ frames := 2, cells := 0, slots := 0, locals := 50 }) D cA (MW cA h0 s0) sz [.ref (h0 0), .int a1, .int a2] (some (.int q.1)) (MW cA h0 q.2) := by
  generalize erm : ({ frames := 2, cells := 0, slots := 0, locals := 50 } : Room) = rm
  refine xMet (by decide) (Nat.le_of_ble_eq_true rfl) ?_
  intro p e s m below meth c hx hb hr hlocks hml hts hown hin hK hP A eA hD hS hA hsz ls hl
  have hl : lv_has ls 3 [(0, .ref (h0 0)), (1, .int a1), (2, .int a2)] := hl
  clear eA
  rw [fX13_buy] at h
  refine lv_aload_n hx hb dX13_buy_0 rfl (lv_at hl 0 rfl) ?_
  obtain ⟨q1, c1, h⟩ := x_call h
  refine xCall (w2 := MW cA h0 q1) (xRunV (n := 0) (As := []) (rest := []) ⟨hx, hb, hml, hown, hts⟩ (kX13_begin l D cA h0 _ N s0 q1 c1) qco_X13_begin qml_X13_63 qin_X13_begin qse_X13_begin qini_X13 (by decide +kernel) (by rw [← erm]; rfl) hK hP hD [0, 1, 2, 3, 4, 5, 6, 7] rfl rfl (q0 := 0) rfl rfl rfl rfl rfl hl.1 rfl (lv_room (Nat.le_of_ble_eq_true rfl)) dX13_buy_1 ⟨Nat.zero_le _, Nat.zero_le _⟩) hP hD hS hA [0, 1, 2, 3, 4, 5, 6, 7] [] [0, 1, 2, 3, 4, 5, 6, 7] rfl (wr := []) rfl rfl rfl rfl rfl (fun H locs hP hD hS => ?_)
  refine lv_aload_n hx hb dX13_buy_4 rfl (lv_at hl 0 rfl) ?_
  refine lv_aload_n hx hb dX13_buy_5 rfl (lv_at hl 0 rfl) ?_
  refine lv_iload_n hx hb dX13_buy_6 rfl (lv_at hl 1 rfl) ?_
  refine lv_iload_n hx hb dX13_buy_7 rfl (lv_at hl 2 rfl) ?_
  obtain ⟨q2, c2, h⟩ := x_call h
  refine xCall (w2 := MW cA h0 q2.2) (xRunV (n := 2) (As := [.int a1, .int a2]) (rest := [.ref (h0 0)]) ⟨hx, hb, hml, hown, hts⟩ (kX13_buys l D cA h0 _ N a1 a2 q1 q2 c2) qco_X13_buys qml_X13_118 qin_X13_buys qse_X13_buys qini_X13 (by decide +kernel) (by rw [← erm]; rfl) hK hP hD [0, 1, 2, 3, 4, 5, 6, 7] rfl rfl (q0 := 0) rfl rfl rfl rfl rfl hl.1 rfl (lv_room (Nat.le_of_ble_eq_true rfl)) dX13_buy_8 ⟨Nat.zero_le _, Nat.zero_le _⟩) hP hD hS hA [0, 1, 2, 3, 4, 5, 6, 7] [] [0, 1, 2, 3, 4, 5, 6, 7] rfl (wr := []) rfl rfl rfl rfl rfl (fun H locs hP hD hS => ?_)
  obtain ⟨q3, c3, h⟩ := x_call h
  refine xCall (w2 := MW cA h0 q3.2) (xRunV (n := 1) (As := [.int q2.1]) (rest := []) ⟨hx, hb, hml, hown, hts⟩ (kX13_kept l D cA h0 _ N q2.1 q2.2 q3 c3) qco_X13_kept qml_X13_74 qin_X13_kept qse_X13_kept qini_X13 (by decide +kernel) (by rw [← erm]; rfl) hK hP hD [0, 1, 2, 3, 4, 5, 6, 7] rfl rfl (q0 := 0) rfl rfl rfl rfl rfl hl.1 rfl (lv_room (Nat.le_of_ble_eq_true rfl)) dX13_buy_11 ⟨Nat.zero_le _, Nat.zero_le _⟩) hP hD hS hA [0, 1, 2, 3, 4, 5, 6, 7] [] [0, 1, 2, 3, 4, 5, 6, 7] rfl (wr := []) rfl rfl rfl rfl rfl (fun H locs hP hD hS => ?_)
  have h := Option.some.inj h
  subst h
  exact xIret hx hb hr hlocks hP hK hD hS dX13_buy_14
def fX13_dropsLot_L13 (N : Nat) (K43 : Int32 → MS → Option (MS)) : Nat → Int32 → Int32 → MS → Option (MS)
  | 0, _, _, _ => none
  | n + 1, v1_7, v2_7, s0_7 =>
    if 7 ≤ v2_7 then
      K43 v1_7 s0_7
    else
      xrd 229 ((v1_7 + v2_7) + 1) fun k9 =>
      xrd 229 (v1_7 + v2_7) fun k10 =>
      xlet (upd s0_7.1 k10 (s0_7.1 k9)) fun g11 =>
      xlet (v2_7 + (1)) fun x12 =>
      fX13_dropsLot_L13 N K43 n v1_7 x12 ((Ms0 s0_7 g11))
def fX13_dropsLot_L4 (N : Nat) (K49 : MS → Option (MS)) : Nat → Int32 → MS → Option (MS)
  | 0, _, _ => none
  | n + 1, v1_3, s0_3 =>
    if 209 ≤ v1_3 then
      K49 s0_3
    else
      xjoin (fun (v1_5 : Int32) (s0_5 : MS) =>
          xlet (v1_5 + (8)) fun x6 =>
          fX13_dropsLot_L4 N K49 n x6 s0_5
        ) fun K43 =>
      fX13_dropsLot_L13 N K43 N v1_3 0 s0_3
def fX13_dropsLot (N : Nat)  (s0 : MS) : Option (MS) :=
  xjoin (fun (s0_1 : MS) =>
      xlet (upd s0_1.1 5 ((s0_1.1 5) - 1)) fun g2 =>
      some ((Ms0 s0_1 g2))
    ) fun K49 =>
  fX13_dropsLot_L4 N K49 N 193 s0
set_option maxRecDepth 100000 in
set_option maxHeartbeats 4000000 in
theorem kX13_dropsLot (l : Launch) (D : va_G) (cA : Nat → ClassId) (h0 : Nat → Nat) (sz N : Nat)  (s0 : MS) (q : MS) (h : fX13_dropsLot N s0 = some q) : xM l yX13_dropsLot cX13_dropsLot 3 none ({ frames := 0, cells := 0, slots := 0, locals := 0 }) D cA (MW cA h0 s0) sz [.ref (h0 0)] (none) (MW cA h0 q) := by
  generalize erm : ({ frames := 0, cells := 0, slots := 0, locals := 0 } : Room) = rm
  refine xMet (by decide) (Nat.le_of_ble_eq_true rfl) ?_
  intro p e s m below meth c hx hb hr hlocks hml hts hown hin hK hP A eA hD hS hA hsz ls hl
  have hl : lv_has ls 3 [(0, .ref (h0 0))] := hl
  clear eA
  rw [fX13_dropsLot] at h
  refine lv_sipush (v := 193) hx hb dX13_dropsLot_0 (by decide) ?_
  refine lv_istore_n (lv' := [(1, .int 193), (0, .ref (h0 0))]) hx hb dX13_dropsLot_3 rfl hl (by decide) rfl (fun ls hl => ?_)
  obtain ⟨K49, eK49, h⟩ := x_join h
  have hJ_K49 : ∀ (s0_1 : MS) (H : Heap) (locs : List Loc), va_P D vwCl (MW cA h0 s0_1) H → va_D A (MW cA h0 s0_1) → va_S A s.heap H locs → ∀ ls : Array Slot, lv_has ls 3 [(0, .ref (h0 0))] → K49 s0_1 = some q → W p l e rm s m ([.ref (h0 0)] : List Value).toArray below meth c H locs 0 0 (MQ below (xQ D cA A (MW cA h0 q) (none)) ([.ref (h0 0)] : List Value).toArray s 0 0 A) (F0 m 49 ls []) := by
    clear h hP hD hS hl
    intro s0_1 H locs hP hD hS ls hl h
    rw [eK49] at h
    refine lv_aload_n hx hb dX13_dropsLot_49 rfl (lv_at hl 0 rfl) ?_
    refine va_get (D := D) (ci := 12) (v := .ref (h0 1)) (C := RX13) (T := TX13) (N := 16) hx hb hts iX13 hown hK hP 0 rfl rfl 0 (by decide) (hts _ qfl_X13_7) (fun _ h9 => h9) rfl dX13_dropsLot_50 ?_
    refine lv_iconst (v := 5) hx hb dX13_dropsLot_53 (by decide) ?_
    refine lv_dup2_11 hx hb dX13_dropsLot_54 rfl rfl ?_
    refine xIald hx hb hK hP 1 0 rfl rfl (x_lit (k := 5) (by decide)) dX13_dropsLot_55 ?_
    refine lv_iconst (v := 1) hx hb dX13_dropsLot_56 (by decide) ?_
    refine lv_isub hx hb dX13_dropsLot_57 ?_
    refine xIast (w2 := fun zz => MW cA h0 ((Ms0 s0_1 zz))) hx hb hK hP hD hS 1 0 rfl rfl (x_lit (k := 5) (by decide)) (fun _ => rfl) dX13_dropsLot_58 (fun g2 eg2 H locs hP hD hS => ?_)
    have h := x_let h eg2
    have hP : va_P D vwCl (MW cA h0 ((Ms0 s0_1 g2))) H := hP
    have hD : va_D A (MW cA h0 ((Ms0 s0_1 g2))) := hD
    have h := Option.some.inj h
    subst h
    exact xVret hx hb hr hlocks hP hK hD hS dX13_dropsLot_59
  have hL4 : ∀ (n : Nat) (v1_3 : Int32) (s0_3 : MS) (H : Heap) (locs : List Loc), va_P D vwCl (MW cA h0 s0_3) H → va_D A (MW cA h0 s0_3) → va_S A s.heap H locs → ∀ ls : Array Slot, lv_has ls 3 [(0, .ref (h0 0)), (1, .int v1_3)] → fX13_dropsLot_L4 N K49 n v1_3 s0_3 = some q → W p l e rm s m ([.ref (h0 0)] : List Value).toArray below meth c H locs 0 0 (MQ below (xQ D cA A (MW cA h0 q) (none)) ([.ref (h0 0)] : List Value).toArray s 0 0 A) (F0 m 4 ls []) := by
    clear h hP hD hS hl
    intro n
    induction n with
    | zero => intro v1_3 s0_3 H locs hP hD hS ls hl h; rw [fX13_dropsLot_L4] at h; cases h
    | succ n ih =>
      intro v1_3 s0_3 H locs hP hD hS ls hl h
      rw [fX13_dropsLot_L4] at h
      refine lv_iload_n hx hb dX13_dropsLot_4 rfl (lv_at hl 1 rfl) ?_
      refine lv_sipush (v := 209) hx hb dX13_dropsLot_5 (by decide) ?_
      refine lv_icmp_ge (tgt := 49) hx hb dX13_dropsLot_8 (by decide) (fun c4 => ?_) (fun c4 => ?_)
      · have h := x_t h c4
        exact hJ_K49 s0_3 _ _ hP hD hS _ (lv_sub hl [0] rfl) h
      · have h := x_f h c4
        refine lv_iconst (v := 0) hx hb dX13_dropsLot_11 (by decide) ?_
        refine lv_istore_n (lv' := [(2, .int 0), (0, .ref (h0 0)), (1, .int v1_3)]) hx hb dX13_dropsLot_12 rfl hl (by decide) rfl (fun ls hl => ?_)
        obtain ⟨K43, eK43, h⟩ := x_join h
        have hJ_K43 : ∀ (v1_5 : Int32) (s0_5 : MS) (H : Heap) (locs : List Loc), va_P D vwCl (MW cA h0 s0_5) H → va_D A (MW cA h0 s0_5) → va_S A s.heap H locs → ∀ ls : Array Slot, lv_has ls 3 [(0, .ref (h0 0)), (1, .int v1_5)] → K43 v1_5 s0_5 = some q → W p l e rm s m ([.ref (h0 0)] : List Value).toArray below meth c H locs 0 0 (MQ below (xQ D cA A (MW cA h0 q) (none)) ([.ref (h0 0)] : List Value).toArray s 0 0 A) (F0 m 43 ls []) := by
          clear h hP hD hS hl
          intro v1_5 s0_5 H locs hP hD hS ls hl h
          rw [eK43] at h
          obtain ⟨x6, ex6⟩ : ∃ y : Int32, y = v1_5 + (8) := ⟨_, rfl⟩
          have h := x_let h ex6
          refine lv_iinc (v := x6) (lv' := [(1, .int x6), (0, .ref (h0 0))]) hx hb dX13_dropsLot_43 hl (k := 1) rfl (by rw [ex6]; rfl) (by decide) rfl (fun ls hl => ?_)
          refine lv_goto (tgt := 4) hx hb dX13_dropsLot_46 (by decide) ?_
          exact ih x6 s0_5 _ _ hP hD hS _ (lv_sub hl [1, 0] rfl) h
        have hL13 : ∀ (n : Nat) (v1_7 : Int32) (v2_7 : Int32) (s0_7 : MS) (H : Heap) (locs : List Loc), va_P D vwCl (MW cA h0 s0_7) H → va_D A (MW cA h0 s0_7) → va_S A s.heap H locs → ∀ ls : Array Slot, lv_has ls 3 [(0, .ref (h0 0)), (1, .int v1_7), (2, .int v2_7)] → fX13_dropsLot_L13 N K43 n v1_7 v2_7 s0_7 = some q → W p l e rm s m ([.ref (h0 0)] : List Value).toArray below meth c H locs 0 0 (MQ below (xQ D cA A (MW cA h0 q) (none)) ([.ref (h0 0)] : List Value).toArray s 0 0 A) (F0 m 13 ls []) := by
          clear h hP hD hS hl
          intro n
          induction n with
          | zero => intro v1_7 v2_7 s0_7 H locs hP hD hS ls hl h; rw [fX13_dropsLot_L13] at h; cases h
          | succ n ih =>
            intro v1_7 v2_7 s0_7 H locs hP hD hS ls hl h
            rw [fX13_dropsLot_L13] at h
            refine lv_iload_n hx hb dX13_dropsLot_13 rfl (lv_at hl 2 rfl) ?_
            refine lv_bipush (v := 7) hx hb dX13_dropsLot_14 (by decide) ?_
            refine lv_icmp_ge (tgt := 43) hx hb dX13_dropsLot_16 (by decide) (fun c8 => ?_) (fun c8 => ?_)
            · have h := x_t h c8
              exact hJ_K43 v1_7 s0_7 _ _ hP hD hS _ (lv_sub hl [0, 1] rfl) h
            · have h := x_f h c8
              refine lv_aload_n hx hb dX13_dropsLot_19 rfl (lv_at hl 0 rfl) ?_
              refine va_get (D := D) (ci := 12) (v := .ref (h0 1)) (C := RX13) (T := TX13) (N := 16) hx hb hts iX13 hown hK hP 0 rfl rfl 0 (by decide) (hts _ qfl_X13_7) (fun _ h9 => h9) rfl dX13_dropsLot_20 ?_
              refine lv_iload_n hx hb dX13_dropsLot_23 rfl (lv_at hl 1 rfl) ?_
              refine lv_iload_n hx hb dX13_dropsLot_24 rfl (lv_at hl 2 rfl) ?_
              refine lv_iadd hx hb dX13_dropsLot_25 ?_
              refine lv_aload_n hx hb dX13_dropsLot_26 rfl (lv_at hl 0 rfl) ?_
              refine va_get (D := D) (ci := 12) (v := .ref (h0 1)) (C := RX13) (T := TX13) (N := 16) hx hb hts iX13 hown hK hP 0 rfl rfl 0 (by decide) (hts _ qfl_X13_7) (fun _ h9 => h9) rfl dX13_dropsLot_27 ?_
              refine lv_iload_n hx hb dX13_dropsLot_30 rfl (lv_at hl 1 rfl) ?_
              refine lv_iload_n hx hb dX13_dropsLot_31 rfl (lv_at hl 2 rfl) ?_
              refine lv_iadd hx hb dX13_dropsLot_32 ?_
              refine lv_iconst (v := 1) hx hb dX13_dropsLot_33 (by decide) ?_
              refine lv_iadd hx hb dX13_dropsLot_34 ?_
              obtain ⟨k9, hk9, h⟩ := x_rd h
              refine xIald hx hb hK hP 1 0 rfl rfl hk9 dX13_dropsLot_35 ?_
              obtain ⟨k10, hk10, h⟩ := x_rd h
              refine xIast (w2 := fun zz => MW cA h0 ((Ms0 s0_7 zz))) hx hb hK hP hD hS 1 0 rfl rfl hk10 (fun _ => rfl) dX13_dropsLot_36 (fun g11 eg11 H locs hP hD hS => ?_)
              have h := x_let h eg11
              have hP : va_P D vwCl (MW cA h0 ((Ms0 s0_7 g11))) H := hP
              have hD : va_D A (MW cA h0 ((Ms0 s0_7 g11))) := hD
              obtain ⟨x12, ex12⟩ : ∃ y : Int32, y = v2_7 + (1) := ⟨_, rfl⟩
              have h := x_let h ex12
              refine lv_iinc (v := x12) (lv' := [(2, .int x12), (0, .ref (h0 0)), (1, .int v1_7)]) hx hb dX13_dropsLot_37 hl (k := 2) rfl (by rw [ex12]; rfl) (by decide) rfl (fun ls hl => ?_)
              refine lv_goto (tgt := 13) hx hb dX13_dropsLot_40 (by decide) ?_
              exact ih v1_7 x12 ((Ms0 s0_7 g11)) _ _ hP hD hS _ (lv_sub hl [1, 2, 0] rfl) h
        exact hL13 N v1_3 0 s0_3 _ _ hP hD hS _ (lv_sub hl [1, 2, 0] rfl) h
  exact hL4 N 193 s0 _ _ hP hD hS _ (lv_sub hl [1, 0] rfl) h
def fX13_sells_L49 (N : Nat) (K120 : Int32 → Int32 → Int32 → MS → Option (Int32 × MS)) : Nat → Int32 → Int32 → Int32 → Int32 → MS → Option (Int32 × MS)
  | 0, _, _, _, _, _ => none
  | n + 1, v1_14, v2_14, v3_14, v4_14, s0_14 =>
    if v4_14 ≤ 0 then
      K120 v1_14 v2_14 v3_14 s0_14
    else
      xjoin (fun (t0_16 : Int32) (v1_16 : Int32) (v2_16 : Int32) (v3_16 : Int32) (v4_16 : Int32) (s0_16 : MS) =>
          xlet (upd s0_16.1 193 ((s0_16.1 193) - t0_16)) fun g17 =>
          xlet (v4_16 - t0_16) fun x18 =>
          xjoin (fun (v1_19 : Int32) (v2_19 : Int32) (v3_19 : Int32) (v4_19 : Int32) (s0_19 : MS) =>
              fX13_sells_L49 N K120 n v1_19 v2_19 v3_19 v4_19 s0_19
            ) fun J117 =>
          if (g17 193) = 0 then
            xcall (fX13_dropsLot N ((Ms0 s0_16 g17))) fun q21 =>
            J117 v1_16 v2_16 v3_16 x18 q21
          else
            J117 v1_16 v2_16 v3_16 x18 ((Ms0 s0_16 g17))
        ) fun J80 =>
      if (s0_14.1 193) ≤ v4_14 then
        J80 (s0_14.1 193) v1_14 v2_14 v3_14 v4_14 s0_14
      else
        J80 v4_14 v1_14 v2_14 v3_14 v4_14 s0_14
def fX13_sells (N : Nat) (a1 : Int32) (a2 : Int32) (s0 : MS) : Option (Int32 × MS) :=
  xcall (fX13_in N a1 1 20) fun q1 =>
  xjoin (fun (s0_2 : MS) =>
      xcall (fX13_fails N 1 s0_2) fun q3 =>
      some (q3.1, q3.2)
    ) fun J20 =>
  if q1 = 0 then
    J20 s0
  else
    xcall (fX13_in N a2 1 40) fun q5 =>
    if q5 = 0 then
      J20 s0
    else
      xcall (fX13_costumes N s0) fun q7 =>
      if a1 ≤ q7 then
        xcall (fX13_costOfFirst N a1 s0) fun q9 =>
        xjoin (fun (v1_10 : Int32) (v2_10 : Int32) (v3_10 : Int32) (s0_10 : MS) =>
            xcall (fX13_enters N 0 4 (v1_10 * v2_10) 0 s0_10) fun q11 =>
            xcall (fX13_enters N 5 1 v3_10 0 q11.2) fun q12 =>
            xcall (fX13_done N v3_10 q12.2) fun q13 =>
            some (q13.1, q13.2)
          ) fun K120 =>
        fX13_sells_L49 N K120 N a1 a2 q9 a1 s0
      else
        xcall (fX13_fails N 2 s0) fun q23 =>
        some (q23.1, q23.2)
set_option maxRecDepth 100000 in
set_option maxHeartbeats 4000000 in
theorem kX13_sells (l : Launch) (D : va_G) (cA : Nat → ClassId) (h0 : Nat → Nat) (sz N : Nat) (a1 : Int32) (a2 : Int32) (s0 : MS) (q : Int32 × MS) (h : fX13_sells N a1 a2 s0 = some q) : xM l yX13_sells cX13_sells 6 (some .int) ({ frames := 1, cells := 0, slots := 0, locals := 26 }) D cA (MW cA h0 s0) sz [.ref (h0 0), .int a1, .int a2] (some (.int q.1)) (MW cA h0 q.2) := by
  generalize erm : ({ frames := 1, cells := 0, slots := 0, locals := 26 } : Room) = rm
  refine xMet (by decide) (Nat.le_of_ble_eq_true rfl) ?_
  intro p e s m below meth c hx hb hr hlocks hml hts hown hin hK hP A eA hD hS hA hsz ls hl
  have hl : lv_has ls 6 [(0, .ref (h0 0)), (1, .int a1), (2, .int a2)] := hl
  clear eA
  rw [fX13_sells] at h
  refine lv_iload_n hx hb dX13_sells_0 rfl (lv_at hl 1 rfl) ?_
  refine lv_iconst (v := 1) hx hb dX13_sells_1 (by decide) ?_
  refine lv_bipush (v := 20) hx hb dX13_sells_2 (by decide) ?_
  obtain ⟨q1, c1, h⟩ := x_call h
  refine xCall (w2 := MW cA h0 s0) (xRunS (n := 3) (As := [.int a1, .int 1, .int 20]) (rest := []) ⟨hx, hb, hml, hown, hts⟩ (kX13_in l D cA  _ N a1 1 20 q1 c1) qco_X13_in qml_X13_49 qst_X13_in qini_X13 (by decide +kernel) (by rw [← erm]; rfl) hK hP hD [] rfl rfl rfl rfl hl.1 rfl (lv_room (Nat.le_of_ble_eq_true rfl)) dX13_sells_4 ⟨Nat.zero_le _, Nat.zero_le _⟩) hP hD hS hA [] [0, 1, 2, 3, 4, 5, 6, 7] [0, 1, 2, 3, 4, 5, 6, 7] rfl (wr := [(h0 0, .inr (12, [.ref (h0 1), .ref (h0 2), .ref (h0 3), .int (s0.2.2.2.1), .ref (h0 4), .int (s0.2.2.2.2.2.1), .ref (h0 5), .int (s0.2.2.2.2.2.2.2.1), .int (s0.2.2.2.2.2.2.2.2.1), .int (s0.2.2.2.2.2.2.2.2.2.1), .ref (h0 6), .int (s0.2.2.2.2.2.2.2.2.2.2.2.1), .int (s0.2.2.2.2.2.2.2.2.2.2.2.2.1), .int (s0.2.2.2.2.2.2.2.2.2.2.2.2.2.1), .int (s0.2.2.2.2.2.2.2.2.2.2.2.2.2.2.1), .ref (h0 7)])), (h0 1, .inl (cA 0, 229, .inl (s0.1))), (h0 2, .inl (cA 0, 229, .inl (s0.2.1))), (h0 3, .inl (cA 0, 1832, .inl (s0.2.2.1))), (h0 4, .inl (cA 0, 229, .inl (s0.2.2.2.2.1))), (h0 5, .inl (cA 1, 60, .inl (s0.2.2.2.2.2.2.1))), (h0 6, .inl (cA 1, 60, .inl (s0.2.2.2.2.2.2.2.2.2.2.1))), (h0 7, .inl (cA 0, 240, .inl (s0.2.2.2.2.2.2.2.2.2.2.2.2.2.2.2)))]) rfl rfl rfl rfl rfl (fun H locs hP hD hS => ?_)
  obtain ⟨J20, eJ20, h⟩ := x_join h
  have hJ_J20 : ∀ (s0_2 : MS) (H : Heap) (locs : List Loc), va_P D vwCl (MW cA h0 s0_2) H → va_D A (MW cA h0 s0_2) → va_S A s.heap H locs → ∀ ls : Array Slot, lv_has ls 6 [(0, .ref (h0 0))] → J20 s0_2 = some q → W p l e rm s m ([.ref (h0 0), .int a1, .int a2] : List Value).toArray below meth c H locs 0 0 (MQ below (xQ D cA A (MW cA h0 q.2) (some (.int q.1))) ([.ref (h0 0), .int a1, .int a2] : List Value).toArray s 0 0 A) (F0 m 20 ls []) := by
    clear h hP hD hS hl
    intro s0_2 H locs hP hD hS ls hl h
    rw [eJ20] at h
    refine lv_aload_n hx hb dX13_sells_20 rfl (lv_at hl 0 rfl) ?_
    refine lv_iconst (v := 1) hx hb dX13_sells_21 (by decide) ?_
    obtain ⟨q3, c3, h⟩ := x_call h
    refine xCall (w2 := MW cA h0 q3.2) (xRunV (n := 1) (As := [.int 1]) (rest := []) ⟨hx, hb, hml, hown, hts⟩ (kX13_fails l D cA h0 _ N 1 s0_2 q3 c3) qco_X13_fails qml_X13_57 qin_X13_fails qse_X13_fails qini_X13 (by decide +kernel) (by rw [← erm]; rfl) hK hP hD [0, 1, 2, 3, 4, 5, 6, 7] rfl rfl (q0 := 0) rfl rfl rfl rfl rfl hl.1 rfl (lv_room (Nat.le_of_ble_eq_true rfl)) dX13_sells_22 ⟨Nat.zero_le _, Nat.zero_le _⟩) hP hD hS hA [0, 1, 2, 3, 4, 5, 6, 7] [] [0, 1, 2, 3, 4, 5, 6, 7] rfl (wr := []) rfl rfl rfl rfl rfl (fun H locs hP hD hS => ?_)
    have h := Option.some.inj h
    subst h
    exact xIret hx hb hr hlocks hP hK hD hS dX13_sells_25
  refine lv_if_eq (tgt := 20) hx hb dX13_sells_7 (by decide) (fun c4 => ?_) (fun c4 => ?_)
  · have h := x_t h c4
    exact hJ_J20 s0 _ _ hP hD hS _ (lv_sub hl [0] rfl) h
  · have h := x_f h c4
    refine lv_iload_n hx hb dX13_sells_10 rfl (lv_at hl 2 rfl) ?_
    refine lv_iconst (v := 1) hx hb dX13_sells_11 (by decide) ?_
    refine lv_bipush (v := 40) hx hb dX13_sells_12 (by decide) ?_
    obtain ⟨q5, c5, h⟩ := x_call h
    refine xCall (w2 := MW cA h0 s0) (xRunS (n := 3) (As := [.int a2, .int 1, .int 40]) (rest := []) ⟨hx, hb, hml, hown, hts⟩ (kX13_in l D cA  _ N a2 1 40 q5 c5) qco_X13_in qml_X13_49 qst_X13_in qini_X13 (by decide +kernel) (by rw [← erm]; rfl) hK hP hD [] rfl rfl rfl rfl hl.1 rfl (lv_room (Nat.le_of_ble_eq_true rfl)) dX13_sells_14 ⟨Nat.zero_le _, Nat.zero_le _⟩) hP hD hS hA [] [0, 1, 2, 3, 4, 5, 6, 7] [0, 1, 2, 3, 4, 5, 6, 7] rfl (wr := [(h0 0, .inr (12, [.ref (h0 1), .ref (h0 2), .ref (h0 3), .int (s0.2.2.2.1), .ref (h0 4), .int (s0.2.2.2.2.2.1), .ref (h0 5), .int (s0.2.2.2.2.2.2.2.1), .int (s0.2.2.2.2.2.2.2.2.1), .int (s0.2.2.2.2.2.2.2.2.2.1), .ref (h0 6), .int (s0.2.2.2.2.2.2.2.2.2.2.2.1), .int (s0.2.2.2.2.2.2.2.2.2.2.2.2.1), .int (s0.2.2.2.2.2.2.2.2.2.2.2.2.2.1), .int (s0.2.2.2.2.2.2.2.2.2.2.2.2.2.2.1), .ref (h0 7)])), (h0 1, .inl (cA 0, 229, .inl (s0.1))), (h0 2, .inl (cA 0, 229, .inl (s0.2.1))), (h0 3, .inl (cA 0, 1832, .inl (s0.2.2.1))), (h0 4, .inl (cA 0, 229, .inl (s0.2.2.2.2.1))), (h0 5, .inl (cA 1, 60, .inl (s0.2.2.2.2.2.2.1))), (h0 6, .inl (cA 1, 60, .inl (s0.2.2.2.2.2.2.2.2.2.2.1))), (h0 7, .inl (cA 0, 240, .inl (s0.2.2.2.2.2.2.2.2.2.2.2.2.2.2.2)))]) rfl rfl rfl rfl rfl (fun H locs hP hD hS => ?_)
    refine lv_if_ne (tgt := 26) hx hb dX13_sells_17 (by decide) (fun c6 => ?_) (fun c6 => ?_)
    · have h := x_f h c6
      refine lv_aload_n hx hb dX13_sells_26 rfl (lv_at hl 0 rfl) ?_
      obtain ⟨q7, c7, h⟩ := x_call h
      refine xCall (w2 := MW cA h0 s0) (xRunV (n := 0) (As := []) (rest := []) ⟨hx, hb, hml, hown, hts⟩ (kX13_costumes l D cA h0 _ N s0 q7 c7) qco_X13_costumes qml_X13_121 qin_X13_costumes qse_X13_costumes qini_X13 (by decide +kernel) (by rw [← erm]; rfl) hK hP hD [0, 1, 2, 3, 4, 5, 6, 7] rfl rfl (q0 := 0) rfl rfl rfl rfl rfl hl.1 rfl (lv_room (Nat.le_of_ble_eq_true rfl)) dX13_sells_27 ⟨Nat.zero_le _, Nat.zero_le _⟩) hP hD hS hA [0, 1, 2, 3, 4, 5, 6, 7] [] [0, 1, 2, 3, 4, 5, 6, 7] rfl (wr := []) rfl rfl rfl rfl rfl (fun H locs hP hD hS => ?_)
      refine lv_iload_n hx hb dX13_sells_30 rfl (lv_at hl 1 rfl) ?_
      refine lv_icmp_ge (tgt := 40) hx hb dX13_sells_31 (by decide) (fun c8 => ?_) (fun c8 => ?_)
      · have h := x_t h c8
        refine lv_aload_n hx hb dX13_sells_40 rfl (lv_at hl 0 rfl) ?_
        refine lv_iload_n hx hb dX13_sells_41 rfl (lv_at hl 1 rfl) ?_
        obtain ⟨q9, c9, h⟩ := x_call h
        refine xCall (w2 := MW cA h0 s0) (xRunV (n := 1) (As := [.int a1]) (rest := []) ⟨hx, hb, hml, hown, hts⟩ (kX13_costOfFirst l D cA h0 _ N a1 s0 q9 c9) qco_X13_costOfFirst qml_X13_124 qin_X13_costOfFirst qse_X13_costOfFirst qini_X13 (by decide +kernel) (by rw [← erm]; rfl) hK hP hD [0, 1, 2, 3, 4, 5, 6, 7] rfl rfl (q0 := 0) rfl rfl rfl rfl rfl hl.1 rfl (lv_room (Nat.le_of_ble_eq_true rfl)) dX13_sells_42 ⟨Nat.zero_le _, Nat.zero_le _⟩) hP hD hS hA [0, 1, 2, 3, 4, 5, 6, 7] [] [0, 1, 2, 3, 4, 5, 6, 7] rfl (wr := []) rfl rfl rfl rfl rfl (fun H locs hP hD hS => ?_)
        refine lv_istore_n (lv' := [(3, .int q9), (0, .ref (h0 0)), (1, .int a1), (2, .int a2)]) hx hb dX13_sells_45 rfl hl (by decide) rfl (fun ls hl => ?_)
        refine lv_iload_n hx hb dX13_sells_46 rfl (lv_at hl 2 rfl) ?_
        refine lv_istore (lv' := [(4, .int a1), (3, .int q9), (0, .ref (h0 0)), (1, .int a1), (2, .int a2)]) hx hb dX13_sells_47 hl (by decide) rfl (fun ls hl => ?_)
        obtain ⟨K120, eK120, h⟩ := x_join h
        have hJ_K120 : ∀ (v1_10 : Int32) (v2_10 : Int32) (v3_10 : Int32) (s0_10 : MS) (H : Heap) (locs : List Loc), va_P D vwCl (MW cA h0 s0_10) H → va_D A (MW cA h0 s0_10) → va_S A s.heap H locs → ∀ ls : Array Slot, lv_has ls 6 [(0, .ref (h0 0)), (1, .int v1_10), (2, .int v2_10), (3, .int v3_10)] → K120 v1_10 v2_10 v3_10 s0_10 = some q → W p l e rm s m ([.ref (h0 0), .int a1, .int a2] : List Value).toArray below meth c H locs 0 0 (MQ below (xQ D cA A (MW cA h0 q.2) (some (.int q.1))) ([.ref (h0 0), .int a1, .int a2] : List Value).toArray s 0 0 A) (F0 m 120 ls []) := by
          clear h hP hD hS hl
          intro v1_10 v2_10 v3_10 s0_10 H locs hP hD hS ls hl h
          rw [eK120] at h
          refine lv_aload_n hx hb dX13_sells_120 rfl (lv_at hl 0 rfl) ?_
          refine lv_iconst (v := 0) hx hb dX13_sells_121 (by decide) ?_
          refine lv_iconst (v := 4) hx hb dX13_sells_122 (by decide) ?_
          refine lv_iload_n hx hb dX13_sells_123 rfl (lv_at hl 1 rfl) ?_
          refine lv_iload_n hx hb dX13_sells_124 rfl (lv_at hl 2 rfl) ?_
          refine lv_imul hx hb dX13_sells_125 ?_
          refine lv_iconst (v := 0) hx hb dX13_sells_126 (by decide) ?_
          obtain ⟨q11, c11, h⟩ := x_call h
          refine xCall (w2 := MW cA h0 q11.2) (xRunV (n := 4) (As := [.int 0, .int 4, .int (v1_10 * v2_10), .int 0]) (rest := []) ⟨hx, hb, hml, hown, hts⟩ (kX13_enters l D cA h0 _ N 0 4 (v1_10 * v2_10) 0 s0_10 q11 c11) qco_X13_enters qml_X13_84 qin_X13_enters qse_X13_enters qini_X13 (by decide +kernel) (by rw [← erm]; rfl) hK hP hD [0, 1, 2, 3, 4, 5, 6, 7] rfl rfl (q0 := 0) rfl rfl rfl rfl rfl hl.1 rfl (lv_room (Nat.le_of_ble_eq_true rfl)) dX13_sells_127 ⟨Nat.zero_le _, Nat.zero_le _⟩) hP hD hS hA [0, 1, 2, 3, 4, 5, 6, 7] [] [0, 1, 2, 3, 4, 5, 6, 7] rfl (wr := []) rfl rfl rfl rfl rfl (fun H locs hP hD hS => ?_)
          refine lv_istore (lv' := [(5, .int q11.1), (0, .ref (h0 0)), (1, .int v1_10), (2, .int v2_10), (3, .int v3_10)]) hx hb dX13_sells_130 hl (by decide) rfl (fun ls hl => ?_)
          refine lv_aload_n hx hb dX13_sells_132 rfl (lv_at hl 1 rfl) ?_
          refine lv_iconst (v := 5) hx hb dX13_sells_133 (by decide) ?_
          refine lv_iconst (v := 1) hx hb dX13_sells_134 (by decide) ?_
          refine lv_iload_n hx hb dX13_sells_135 rfl (lv_at hl 4 rfl) ?_
          refine lv_iconst (v := 0) hx hb dX13_sells_136 (by decide) ?_
          obtain ⟨q12, c12, h⟩ := x_call h
          refine xCall (w2 := MW cA h0 q12.2) (xRunV (n := 4) (As := [.int 5, .int 1, .int v3_10, .int 0]) (rest := []) ⟨hx, hb, hml, hown, hts⟩ (kX13_enters l D cA h0 _ N 5 1 v3_10 0 q11.2 q12 c12) qco_X13_enters qml_X13_84 qin_X13_enters qse_X13_enters qini_X13 (by decide +kernel) (by rw [← erm]; rfl) hK hP hD [0, 1, 2, 3, 4, 5, 6, 7] rfl rfl (q0 := 0) rfl rfl rfl rfl rfl hl.1 rfl (lv_room (Nat.le_of_ble_eq_true rfl)) dX13_sells_137 ⟨Nat.zero_le _, Nat.zero_le _⟩) hP hD hS hA [0, 1, 2, 3, 4, 5, 6, 7] [] [0, 1, 2, 3, 4, 5, 6, 7] rfl (wr := []) rfl rfl rfl rfl rfl (fun H locs hP hD hS => ?_)
          refine lv_istore (lv' := [(5, .int q12.1), (0, .ref (h0 0)), (1, .int v1_10), (2, .int v2_10), (3, .int v3_10)]) hx hb dX13_sells_140 hl (by decide) rfl (fun ls hl => ?_)
          refine lv_aload_n hx hb dX13_sells_142 rfl (lv_at hl 1 rfl) ?_
          refine lv_iload_n hx hb dX13_sells_143 rfl (lv_at hl 4 rfl) ?_
          obtain ⟨q13, c13, h⟩ := x_call h
          refine xCall (w2 := MW cA h0 q13.2) (xRunV (n := 1) (As := [.int v3_10]) (rest := []) ⟨hx, hb, hml, hown, hts⟩ (kX13_done l D cA h0 _ N v3_10 q12.2 q13 c13) qco_X13_done qml_X13_60 qin_X13_done qse_X13_done qini_X13 (by decide +kernel) (by rw [← erm]; rfl) hK hP hD [0, 1, 2, 3, 4, 5, 6, 7] rfl rfl (q0 := 0) rfl rfl rfl rfl rfl hl.1 rfl (lv_room (Nat.le_of_ble_eq_true rfl)) dX13_sells_144 ⟨Nat.zero_le _, Nat.zero_le _⟩) hP hD hS hA [0, 1, 2, 3, 4, 5, 6, 7] [] [0, 1, 2, 3, 4, 5, 6, 7] rfl (wr := []) rfl rfl rfl rfl rfl (fun H locs hP hD hS => ?_)
          have h := Option.some.inj h
          subst h
          exact xIret hx hb hr hlocks hP hK hD hS dX13_sells_147
        have hL49 : ∀ (n : Nat) (v1_14 : Int32) (v2_14 : Int32) (v3_14 : Int32) (v4_14 : Int32) (s0_14 : MS) (H : Heap) (locs : List Loc), va_P D vwCl (MW cA h0 s0_14) H → va_D A (MW cA h0 s0_14) → va_S A s.heap H locs → ∀ ls : Array Slot, lv_has ls 6 [(0, .ref (h0 0)), (1, .int v1_14), (2, .int v2_14), (3, .int v3_14), (4, .int v4_14)] → fX13_sells_L49 N K120 n v1_14 v2_14 v3_14 v4_14 s0_14 = some q → W p l e rm s m ([.ref (h0 0), .int a1, .int a2] : List Value).toArray below meth c H locs 0 0 (MQ below (xQ D cA A (MW cA h0 q.2) (some (.int q.1))) ([.ref (h0 0), .int a1, .int a2] : List Value).toArray s 0 0 A) (F0 m 49 ls []) := by
          clear h hP hD hS hl
          intro n
          induction n with
          | zero => intro v1_14 v2_14 v3_14 v4_14 s0_14 H locs hP hD hS ls hl h; rw [fX13_sells_L49] at h; cases h
          | succ n ih =>
            intro v1_14 v2_14 v3_14 v4_14 s0_14 H locs hP hD hS ls hl h
            rw [fX13_sells_L49] at h
            refine lv_iload hx hb dX13_sells_49 (lv_at hl 4 rfl) ?_
            refine lv_if_le (tgt := 120) hx hb dX13_sells_51 (by decide) (fun c15 => ?_) (fun c15 => ?_)
            · have h := x_t h c15
              exact hJ_K120 v1_14 v2_14 v3_14 s0_14 _ _ hP hD hS _ (lv_sub hl [0, 1, 2, 3] rfl) h
            · have h := x_f h c15
              refine lv_iload hx hb dX13_sells_54 (lv_at hl 4 rfl) ?_
              refine lv_aload_n hx hb dX13_sells_56 rfl (lv_at hl 0 rfl) ?_
              refine va_get (D := D) (ci := 12) (v := .ref (h0 1)) (C := RX13) (T := TX13) (N := 16) hx hb hts iX13 hown hK hP 0 rfl rfl 0 (by decide) (hts _ qfl_X13_7) (fun _ h9 => h9) rfl dX13_sells_57 ?_
              refine lv_sipush (v := 193) hx hb dX13_sells_60 (by decide) ?_
              refine xIald hx hb hK hP 1 0 rfl rfl (x_lit (k := 193) (by decide)) dX13_sells_63 ?_
              obtain ⟨J80, eJ80, h⟩ := x_join h
              have hJ_J80 : ∀ (t0_16 : Int32) (v1_16 : Int32) (v2_16 : Int32) (v3_16 : Int32) (v4_16 : Int32) (s0_16 : MS) (H : Heap) (locs : List Loc), va_P D vwCl (MW cA h0 s0_16) H → va_D A (MW cA h0 s0_16) → va_S A s.heap H locs → ∀ ls : Array Slot, lv_has ls 6 [(0, .ref (h0 0)), (1, .int v1_16), (2, .int v2_16), (3, .int v3_16), (4, .int v4_16)] → J80 t0_16 v1_16 v2_16 v3_16 v4_16 s0_16 = some q → W p l e rm s m ([.ref (h0 0), .int a1, .int a2] : List Value).toArray below meth c H locs 0 0 (MQ below (xQ D cA A (MW cA h0 q.2) (some (.int q.1))) ([.ref (h0 0), .int a1, .int a2] : List Value).toArray s 0 0 A) (F0 m 80 ls [.int t0_16]) := by
                clear h hP hD hS hl
                intro t0_16 v1_16 v2_16 v3_16 v4_16 s0_16 H locs hP hD hS ls hl h
                rw [eJ80] at h
                refine lv_istore (lv' := [(5, .int t0_16), (0, .ref (h0 0)), (1, .int v1_16), (2, .int v2_16), (3, .int v3_16), (4, .int v4_16)]) hx hb dX13_sells_80 hl (by decide) rfl (fun ls hl => ?_)
                refine lv_aload_n hx hb dX13_sells_82 rfl (lv_at hl 1 rfl) ?_
                refine va_get (D := D) (ci := 12) (v := .ref (h0 1)) (C := RX13) (T := TX13) (N := 16) hx hb hts iX13 hown hK hP 0 rfl rfl 0 (by decide) (hts _ qfl_X13_7) (fun _ h9 => h9) rfl dX13_sells_83 ?_
                refine lv_sipush (v := 193) hx hb dX13_sells_86 (by decide) ?_
                refine lv_dup2_11 hx hb dX13_sells_89 rfl rfl ?_
                refine xIald hx hb hK hP 1 0 rfl rfl (x_lit (k := 193) (by decide)) dX13_sells_90 ?_
                refine lv_iload hx hb dX13_sells_91 (lv_at hl 0 rfl) ?_
                refine lv_isub hx hb dX13_sells_93 ?_
                refine xIast (w2 := fun zz => MW cA h0 ((Ms0 s0_16 zz))) hx hb hK hP hD hS 1 0 rfl rfl (x_lit (k := 193) (by decide)) (fun _ => rfl) dX13_sells_94 (fun g17 eg17 H locs hP hD hS => ?_)
                have h := x_let h eg17
                have hP : va_P D vwCl (MW cA h0 ((Ms0 s0_16 g17))) H := hP
                have hD : va_D A (MW cA h0 ((Ms0 s0_16 g17))) := hD
                refine lv_iload hx hb dX13_sells_95 (lv_at hl 5 rfl) ?_
                refine lv_iload hx hb dX13_sells_97 (lv_at hl 0 rfl) ?_
                refine lv_isub hx hb dX13_sells_99 ?_
                refine lv_topi (fun x18 ex18 => ?_)
                have h := x_let h ex18
                refine lv_istore (lv' := [(4, .int x18), (5, .int t0_16), (0, .ref (h0 0)), (1, .int v1_16), (2, .int v2_16), (3, .int v3_16)]) hx hb dX13_sells_100 hl (by decide) rfl (fun ls hl => ?_)
                refine lv_aload_n hx hb dX13_sells_102 rfl (lv_at hl 2 rfl) ?_
                refine va_get (D := D) (ci := 12) (v := .ref (h0 1)) (C := RX13) (T := TX13) (N := 16) hx hb hts iX13 hown hK hP 0 rfl rfl 0 (by decide) (hts _ qfl_X13_7) (fun _ h9 => h9) rfl dX13_sells_103 ?_
                refine lv_sipush (v := 193) hx hb dX13_sells_106 (by decide) ?_
                refine xIald hx hb hK hP 1 0 rfl rfl (x_lit (k := 193) (by decide)) dX13_sells_109 ?_
                obtain ⟨J117, eJ117, h⟩ := x_join h
                have hJ_J117 : ∀ (v1_19 : Int32) (v2_19 : Int32) (v3_19 : Int32) (v4_19 : Int32) (s0_19 : MS) (H : Heap) (locs : List Loc), va_P D vwCl (MW cA h0 s0_19) H → va_D A (MW cA h0 s0_19) → va_S A s.heap H locs → ∀ ls : Array Slot, lv_has ls 6 [(0, .ref (h0 0)), (1, .int v1_19), (2, .int v2_19), (3, .int v3_19), (4, .int v4_19)] → J117 v1_19 v2_19 v3_19 v4_19 s0_19 = some q → W p l e rm s m ([.ref (h0 0), .int a1, .int a2] : List Value).toArray below meth c H locs 0 0 (MQ below (xQ D cA A (MW cA h0 q.2) (some (.int q.1))) ([.ref (h0 0), .int a1, .int a2] : List Value).toArray s 0 0 A) (F0 m 117 ls []) := by
                  clear h hP hD hS hl
                  intro v1_19 v2_19 v3_19 v4_19 s0_19 H locs hP hD hS ls hl h
                  rw [eJ117] at h
                  refine lv_goto (tgt := 49) hx hb dX13_sells_117 (by decide) ?_
                  exact ih v1_19 v2_19 v3_19 v4_19 s0_19 _ _ hP hD hS _ (lv_sub hl [0, 1, 2, 3, 4] rfl) h
                refine lv_if_ne (tgt := 117) hx hb dX13_sells_110 (by decide) (fun c20 => ?_) (fun c20 => ?_)
                · have h := x_f h c20
                  exact hJ_J117 v1_16 v2_16 v3_16 x18 ((Ms0 s0_16 g17)) _ _ hP hD hS _ (lv_sub hl [2, 3, 4, 5, 0] rfl) h
                · have h := x_t h c20
                  refine lv_aload_n hx hb dX13_sells_113 rfl (lv_at hl 2 rfl) ?_
                  obtain ⟨q21, c21, h⟩ := x_call h
                  refine xCall (w2 := MW cA h0 q21) (xRunV (n := 0) (As := []) (rest := []) ⟨hx, hb, hml, hown, hts⟩ (kX13_dropsLot l D cA h0 _ N ((Ms0 s0_16 g17)) q21 c21) qco_X13_dropsLot qml_X13_127 qin_X13_dropsLot qse_X13_dropsLot qini_X13 (by decide +kernel) (by rw [← erm]; rfl) hK hP hD [0, 1, 2, 3, 4, 5, 6, 7] rfl rfl (q0 := 0) rfl rfl rfl rfl rfl hl.1 rfl (lv_room (Nat.le_of_ble_eq_true rfl)) dX13_sells_114 ⟨Nat.zero_le _, Nat.zero_le _⟩) hP hD hS hA [0, 1, 2, 3, 4, 5, 6, 7] [] [0, 1, 2, 3, 4, 5, 6, 7] rfl (wr := []) rfl rfl rfl rfl rfl (fun H locs hP hD hS => ?_)
                  exact hJ_J117 v1_16 v2_16 v3_16 x18 q21 _ _ hP hD hS _ (lv_sub hl [2, 3, 4, 5, 0] rfl) h
              refine lv_icmp_ge (tgt := 72) hx hb dX13_sells_64 (by decide) (fun c22 => ?_) (fun c22 => ?_)
              · have h := x_t h c22
                refine lv_aload_n hx hb dX13_sells_72 rfl (lv_at hl 0 rfl) ?_
                refine va_get (D := D) (ci := 12) (v := .ref (h0 1)) (C := RX13) (T := TX13) (N := 16) hx hb hts iX13 hown hK hP 0 rfl rfl 0 (by decide) (hts _ qfl_X13_7) (fun _ h9 => h9) rfl dX13_sells_73 ?_
                refine lv_sipush (v := 193) hx hb dX13_sells_76 (by decide) ?_
                refine xIald hx hb hK hP 1 0 rfl rfl (x_lit (k := 193) (by decide)) dX13_sells_79 ?_
                exact hJ_J80 (s0_14.1 193) v1_14 v2_14 v3_14 v4_14 s0_14 _ _ hP hD hS _ (lv_sub hl [0, 1, 2, 3, 4] rfl) h
              · have h := x_f h c22
                refine lv_iload hx hb dX13_sells_67 (lv_at hl 4 rfl) ?_
                refine lv_goto (tgt := 80) hx hb dX13_sells_69 (by decide) ?_
                exact hJ_J80 v4_14 v1_14 v2_14 v3_14 v4_14 s0_14 _ _ hP hD hS _ (lv_sub hl [0, 1, 2, 3, 4] rfl) h
        exact hL49 N a1 a2 q9 a1 s0 _ _ hP hD hS _ (lv_sub hl [2, 3, 4, 1, 0] rfl) h
      · have h := x_f h c8
        refine lv_aload_n hx hb dX13_sells_34 rfl (lv_at hl 0 rfl) ?_
        refine lv_iconst (v := 2) hx hb dX13_sells_35 (by decide) ?_
        obtain ⟨q23, c23, h⟩ := x_call h
        refine xCall (w2 := MW cA h0 q23.2) (xRunV (n := 1) (As := [.int 2]) (rest := []) ⟨hx, hb, hml, hown, hts⟩ (kX13_fails l D cA h0 _ N 2 s0 q23 c23) qco_X13_fails qml_X13_57 qin_X13_fails qse_X13_fails qini_X13 (by decide +kernel) (by rw [← erm]; rfl) hK hP hD [0, 1, 2, 3, 4, 5, 6, 7] rfl rfl (q0 := 0) rfl rfl rfl rfl rfl hl.1 rfl (lv_room (Nat.le_of_ble_eq_true rfl)) dX13_sells_36 ⟨Nat.zero_le _, Nat.zero_le _⟩) hP hD hS hA [0, 1, 2, 3, 4, 5, 6, 7] [] [0, 1, 2, 3, 4, 5, 6, 7] rfl (wr := []) rfl rfl rfl rfl rfl (fun H locs hP hD hS => ?_)
        have h := Option.some.inj h
        subst h
        exact xIret hx hb hr hlocks hP hK hD hS dX13_sells_39
    · have h := x_t h c6
      exact hJ_J20 s0 _ _ hP hD hS _ (lv_sub hl [0] rfl) h
def fX13_sell (N : Nat) (a1 : Int32) (a2 : Int32) (s0 : MS) : Option (Int32 × MS) :=
  xcall (fX13_begin N s0) fun q1 =>
  xcall (fX13_sells N a1 a2 q1) fun q2 =>
  xcall (fX13_kept N q2.1 q2.2) fun q3 =>
  some (q3.1, q3.2)
set_option maxRecDepth 100000 in
set_option maxHeartbeats 4000000 in
theorem kX13_sell (l : Launch) (D : va_G) (cA : Nat → ClassId) (h0 : Nat → Nat) (sz N : Nat) (a1 : Int32) (a2 : Int32) (s0 : MS) (q : Int32 × MS) (h : fX13_sell N a1 a2 s0 = some q) : xM l yX13_sell cX13_sell 3 (some .int) ({ frames := 2, cells := 0, slots := 0, locals := 51 }) D cA (MW cA h0 s0) sz [.ref (h0 0), .int a1, .int a2] (some (.int q.1)) (MW cA h0 q.2) := by
  generalize erm : ({ frames := 2, cells := 0, slots := 0, locals := 51 } : Room) = rm
  refine xMet (by decide) (Nat.le_of_ble_eq_true rfl) ?_
  intro p e s m below meth c hx hb hr hlocks hml hts hown hin hK hP A eA hD hS hA hsz ls hl
  have hl : lv_has ls 3 [(0, .ref (h0 0)), (1, .int a1), (2, .int a2)] := hl
  clear eA
  rw [fX13_sell] at h
  refine lv_aload_n hx hb dX13_sell_0 rfl (lv_at hl 0 rfl) ?_
  obtain ⟨q1, c1, h⟩ := x_call h
  refine xCall (w2 := MW cA h0 q1) (xRunV (n := 0) (As := []) (rest := []) ⟨hx, hb, hml, hown, hts⟩ (kX13_begin l D cA h0 _ N s0 q1 c1) qco_X13_begin qml_X13_63 qin_X13_begin qse_X13_begin qini_X13 (by decide +kernel) (by rw [← erm]; rfl) hK hP hD [0, 1, 2, 3, 4, 5, 6, 7] rfl rfl (q0 := 0) rfl rfl rfl rfl rfl hl.1 rfl (lv_room (Nat.le_of_ble_eq_true rfl)) dX13_sell_1 ⟨Nat.zero_le _, Nat.zero_le _⟩) hP hD hS hA [0, 1, 2, 3, 4, 5, 6, 7] [] [0, 1, 2, 3, 4, 5, 6, 7] rfl (wr := []) rfl rfl rfl rfl rfl (fun H locs hP hD hS => ?_)
  refine lv_aload_n hx hb dX13_sell_4 rfl (lv_at hl 0 rfl) ?_
  refine lv_aload_n hx hb dX13_sell_5 rfl (lv_at hl 0 rfl) ?_
  refine lv_iload_n hx hb dX13_sell_6 rfl (lv_at hl 1 rfl) ?_
  refine lv_iload_n hx hb dX13_sell_7 rfl (lv_at hl 2 rfl) ?_
  obtain ⟨q2, c2, h⟩ := x_call h
  refine xCall (w2 := MW cA h0 q2.2) (xRunV (n := 2) (As := [.int a1, .int a2]) (rest := [.ref (h0 0)]) ⟨hx, hb, hml, hown, hts⟩ (kX13_sells l D cA h0 _ N a1 a2 q1 q2 c2) qco_X13_sells qml_X13_130 qin_X13_sells qse_X13_sells qini_X13 (by decide +kernel) (by rw [← erm]; rfl) hK hP hD [0, 1, 2, 3, 4, 5, 6, 7] rfl rfl (q0 := 0) rfl rfl rfl rfl rfl hl.1 rfl (lv_room (Nat.le_of_ble_eq_true rfl)) dX13_sell_8 ⟨Nat.zero_le _, Nat.zero_le _⟩) hP hD hS hA [0, 1, 2, 3, 4, 5, 6, 7] [] [0, 1, 2, 3, 4, 5, 6, 7] rfl (wr := []) rfl rfl rfl rfl rfl (fun H locs hP hD hS => ?_)
  obtain ⟨q3, c3, h⟩ := x_call h
  refine xCall (w2 := MW cA h0 q3.2) (xRunV (n := 1) (As := [.int q2.1]) (rest := []) ⟨hx, hb, hml, hown, hts⟩ (kX13_kept l D cA h0 _ N q2.1 q2.2 q3 c3) qco_X13_kept qml_X13_74 qin_X13_kept qse_X13_kept qini_X13 (by decide +kernel) (by rw [← erm]; rfl) hK hP hD [0, 1, 2, 3, 4, 5, 6, 7] rfl rfl (q0 := 0) rfl rfl rfl rfl rfl hl.1 rfl (lv_room (Nat.le_of_ble_eq_true rfl)) dX13_sell_11 ⟨Nat.zero_le _, Nat.zero_le _⟩) hP hD hS hA [0, 1, 2, 3, 4, 5, 6, 7] [] [0, 1, 2, 3, 4, 5, 6, 7] rfl (wr := []) rfl rfl rfl rfl rfl (fun H locs hP hD hS => ?_)
  have h := Option.some.inj h
  subst h
  exact xIret hx hb hr hlocks hP hK hD hS dX13_sell_14
def fX13_owed_L4 (N : Nat) (s0 : MS) (K34 : Int32 → Option (Int32)) : Nat → Int32 → Int32 → Option (Int32)
  | 0, _, _ => none
  | n + 1, v1_2, v2_2 =>
    if (s0.1 6) ≤ v2_2 then
      K34 v1_2
    else
      xrd 229 (219 + v2_2) fun k4 =>
      xlet (v1_2 + (s0.1 k4)) fun x5 =>
      xlet (v2_2 + (1)) fun x6 =>
      fX13_owed_L4 N s0 K34 n x5 x6
def fX13_owed (N : Nat)  (s0 : MS) : Option (Int32) :=
  xjoin (fun (v1_1 : Int32) =>
      some v1_1
    ) fun K34 =>
  fX13_owed_L4 N s0 K34 N 0 0
set_option maxRecDepth 100000 in
set_option maxHeartbeats 4000000 in
theorem kX13_owed (l : Launch) (D : va_G) (cA : Nat → ClassId) (h0 : Nat → Nat) (sz N : Nat)  (s0 : MS) (q : Int32) (h : fX13_owed N s0 = some q) : xM l yX13_owed cX13_owed 3 (some .int) ({ frames := 0, cells := 0, slots := 0, locals := 0 }) D cA (MW cA h0 s0) sz [.ref (h0 0)] (some (.int q)) (MW cA h0 s0) := by
  generalize erm : ({ frames := 0, cells := 0, slots := 0, locals := 0 } : Room) = rm
  refine xMet (by decide) (Nat.le_of_ble_eq_true rfl) ?_
  intro p e s m below meth c hx hb hr hlocks hml hts hown hin hK hP A eA hD hS hA hsz ls hl
  have hl : lv_has ls 3 [(0, .ref (h0 0))] := hl
  clear eA
  rw [fX13_owed] at h
  refine lv_iconst (v := 0) hx hb dX13_owed_0 (by decide) ?_
  refine lv_istore_n (lv' := [(1, .int 0), (0, .ref (h0 0))]) hx hb dX13_owed_1 rfl hl (by decide) rfl (fun ls hl => ?_)
  refine lv_iconst (v := 0) hx hb dX13_owed_2 (by decide) ?_
  refine lv_istore_n (lv' := [(2, .int 0), (1, .int 0), (0, .ref (h0 0))]) hx hb dX13_owed_3 rfl hl (by decide) rfl (fun ls hl => ?_)
  obtain ⟨K34, eK34, h⟩ := x_join h
  have hJ_K34 : ∀ (v1_1 : Int32) (H : Heap) (locs : List Loc), va_P D vwCl (MW cA h0 s0) H → va_D A (MW cA h0 s0) → va_S A s.heap H locs → ∀ ls : Array Slot, lv_has ls 3 [(1, .int v1_1)] → K34 v1_1 = some q → W p l e rm s m ([.ref (h0 0)] : List Value).toArray below meth c H locs 0 0 (MQ below (xQ D cA A (MW cA h0 s0) (some (.int q))) ([.ref (h0 0)] : List Value).toArray s 0 0 A) (F0 m 34 ls []) := by
    clear h hP hD hS hl
    intro v1_1 H locs hP hD hS ls hl h
    rw [eK34] at h
    refine lv_iload_n hx hb dX13_owed_34 rfl (lv_at hl 0 rfl) ?_
    have h := Option.some.inj h
    subst h
    exact xIret hx hb hr hlocks hP hK hD hS dX13_owed_35
  have hL4 : ∀ (n : Nat) (v1_2 : Int32) (v2_2 : Int32) (H : Heap) (locs : List Loc), va_P D vwCl (MW cA h0 s0) H → va_D A (MW cA h0 s0) → va_S A s.heap H locs → ∀ ls : Array Slot, lv_has ls 3 [(0, .ref (h0 0)), (1, .int v1_2), (2, .int v2_2)] → fX13_owed_L4 N s0 K34 n v1_2 v2_2 = some q → W p l e rm s m ([.ref (h0 0)] : List Value).toArray below meth c H locs 0 0 (MQ below (xQ D cA A (MW cA h0 s0) (some (.int q))) ([.ref (h0 0)] : List Value).toArray s 0 0 A) (F0 m 4 ls []) := by
    clear h hP hD hS hl
    intro n
    induction n with
    | zero => intro v1_2 v2_2 H locs hP hD hS ls hl h; rw [fX13_owed_L4] at h; cases h
    | succ n ih =>
      intro v1_2 v2_2 H locs hP hD hS ls hl h
      rw [fX13_owed_L4] at h
      refine lv_iload_n hx hb dX13_owed_4 rfl (lv_at hl 2 rfl) ?_
      refine lv_aload_n hx hb dX13_owed_5 rfl (lv_at hl 0 rfl) ?_
      refine va_get (D := D) (ci := 12) (v := .ref (h0 1)) (C := RX13) (T := TX13) (N := 16) hx hb hts iX13 hown hK hP 0 rfl rfl 0 (by decide) (hts _ qfl_X13_7) (fun _ h9 => h9) rfl dX13_owed_6 ?_
      refine lv_bipush (v := 6) hx hb dX13_owed_9 (by decide) ?_
      refine xIald hx hb hK hP 1 0 rfl rfl (x_lit (k := 6) (by decide)) dX13_owed_11 ?_
      refine lv_icmp_ge (tgt := 34) hx hb dX13_owed_12 (by decide) (fun c3 => ?_) (fun c3 => ?_)
      · have h := x_t h c3
        exact hJ_K34 v1_2 _ _ hP hD hS _ (lv_sub hl [1] rfl) h
      · have h := x_f h c3
        refine lv_iload_n hx hb dX13_owed_15 rfl (lv_at hl 1 rfl) ?_
        refine lv_aload_n hx hb dX13_owed_16 rfl (lv_at hl 0 rfl) ?_
        refine va_get (D := D) (ci := 12) (v := .ref (h0 1)) (C := RX13) (T := TX13) (N := 16) hx hb hts iX13 hown hK hP 0 rfl rfl 0 (by decide) (hts _ qfl_X13_7) (fun _ h9 => h9) rfl dX13_owed_17 ?_
        refine lv_sipush (v := 219) hx hb dX13_owed_20 (by decide) ?_
        refine lv_iload_n hx hb dX13_owed_23 rfl (lv_at hl 2 rfl) ?_
        refine lv_iadd hx hb dX13_owed_24 ?_
        obtain ⟨k4, hk4, h⟩ := x_rd h
        refine xIald hx hb hK hP 1 0 rfl rfl hk4 dX13_owed_25 ?_
        refine lv_iadd hx hb dX13_owed_26 ?_
        refine lv_topi (fun x5 ex5 => ?_)
        have h := x_let h ex5
        refine lv_istore_n (lv' := [(1, .int x5), (0, .ref (h0 0)), (2, .int v2_2)]) hx hb dX13_owed_27 rfl hl (by decide) rfl (fun ls hl => ?_)
        obtain ⟨x6, ex6⟩ : ∃ y : Int32, y = v2_2 + (1) := ⟨_, rfl⟩
        have h := x_let h ex6
        refine lv_iinc (v := x6) (lv' := [(2, .int x6), (1, .int x5), (0, .ref (h0 0))]) hx hb dX13_owed_28 hl (k := 2) rfl (by rw [ex6]; rfl) (by decide) rfl (fun ls hl => ?_)
        refine lv_goto (tgt := 4) hx hb dX13_owed_31 (by decide) ?_
        exact ih x5 x6 _ _ hP hD hS _ (lv_sub hl [2, 1, 0] rfl) h
  exact hL4 N 0 0 _ _ hP hD hS _ (lv_sub hl [2, 1, 0] rfl) h
def fX13_writesBill (N : Nat) (a1 : Int32) (s0 : MS) : Option (Int32 × MS) :=
  xcall (fX13_in N a1 1 999) fun q1 =>
  if q1 = 0 then
    xcall (fX13_fails N 1 s0) fun q14 =>
    some (q14.1, q14.2)
  else
    xlet (s0.1 6) fun x3 =>
    if x3 = 10 then
      xcall (fX13_fails N 2 s0) fun q13 =>
      some (q13.1, q13.2)
    else
      xrd 229 (209 + x3) fun k5 =>
      xlet (upd s0.1 k5 (s0.1 7)) fun g6 =>
      xrd 229 (219 + x3) fun k7 =>
      xlet (upd g6 k7 a1) fun g8 =>
      xlet (upd g8 6 ((g8 6) + 1)) fun g9 =>
      xlet (upd g9 7 ((g9 7) + 1)) fun g10 =>
      xcall (fX13_enters N 2 4 a1 0 ((Ms0 s0 g10))) fun q11 =>
      xcall (fX13_done N ((q11.2.1 7) - 1) q11.2) fun q12 =>
      some (q12.1, q12.2)
set_option maxRecDepth 100000 in
set_option maxHeartbeats 4000000 in
theorem kX13_writesBill (l : Launch) (D : va_G) (cA : Nat → ClassId) (h0 : Nat → Nat) (sz N : Nat) (a1 : Int32) (s0 : MS) (q : Int32 × MS) (h : fX13_writesBill N a1 s0 = some q) : xM l yX13_writesBill cX13_writesBill 4 (some .int) ({ frames := 1, cells := 0, slots := 0, locals := 26 }) D cA (MW cA h0 s0) sz [.ref (h0 0), .int a1] (some (.int q.1)) (MW cA h0 q.2) := by
  generalize erm : ({ frames := 1, cells := 0, slots := 0, locals := 26 } : Room) = rm
  refine xMet (by decide) (Nat.le_of_ble_eq_true rfl) ?_
  intro p e s m below meth c hx hb hr hlocks hml hts hown hin hK hP A eA hD hS hA hsz ls hl
  have hl : lv_has ls 4 [(0, .ref (h0 0)), (1, .int a1)] := hl
  clear eA
  rw [fX13_writesBill] at h
  refine lv_iload_n hx hb dX13_writesBill_0 rfl (lv_at hl 1 rfl) ?_
  refine lv_iconst (v := 1) hx hb dX13_writesBill_1 (by decide) ?_
  refine lv_sipush (v := 999) hx hb dX13_writesBill_2 (by decide) ?_
  obtain ⟨q1, c1, h⟩ := x_call h
  refine xCall (w2 := MW cA h0 s0) (xRunS (n := 3) (As := [.int a1, .int 1, .int 999]) (rest := []) ⟨hx, hb, hml, hown, hts⟩ (kX13_in l D cA  _ N a1 1 999 q1 c1) qco_X13_in qml_X13_49 qst_X13_in qini_X13 (by decide +kernel) (by rw [← erm]; rfl) hK hP hD [] rfl rfl rfl rfl hl.1 rfl (lv_room (Nat.le_of_ble_eq_true rfl)) dX13_writesBill_5 ⟨Nat.zero_le _, Nat.zero_le _⟩) hP hD hS hA [] [0, 1, 2, 3, 4, 5, 6, 7] [0, 1, 2, 3, 4, 5, 6, 7] rfl (wr := [(h0 0, .inr (12, [.ref (h0 1), .ref (h0 2), .ref (h0 3), .int (s0.2.2.2.1), .ref (h0 4), .int (s0.2.2.2.2.2.1), .ref (h0 5), .int (s0.2.2.2.2.2.2.2.1), .int (s0.2.2.2.2.2.2.2.2.1), .int (s0.2.2.2.2.2.2.2.2.2.1), .ref (h0 6), .int (s0.2.2.2.2.2.2.2.2.2.2.2.1), .int (s0.2.2.2.2.2.2.2.2.2.2.2.2.1), .int (s0.2.2.2.2.2.2.2.2.2.2.2.2.2.1), .int (s0.2.2.2.2.2.2.2.2.2.2.2.2.2.2.1), .ref (h0 7)])), (h0 1, .inl (cA 0, 229, .inl (s0.1))), (h0 2, .inl (cA 0, 229, .inl (s0.2.1))), (h0 3, .inl (cA 0, 1832, .inl (s0.2.2.1))), (h0 4, .inl (cA 0, 229, .inl (s0.2.2.2.2.1))), (h0 5, .inl (cA 1, 60, .inl (s0.2.2.2.2.2.2.1))), (h0 6, .inl (cA 1, 60, .inl (s0.2.2.2.2.2.2.2.2.2.2.1))), (h0 7, .inl (cA 0, 240, .inl (s0.2.2.2.2.2.2.2.2.2.2.2.2.2.2.2)))]) rfl rfl rfl rfl rfl (fun H locs hP hD hS => ?_)
  refine lv_if_ne (tgt := 17) hx hb dX13_writesBill_8 (by decide) (fun c2 => ?_) (fun c2 => ?_)
  · have h := x_f h c2
    refine lv_aload_n hx hb dX13_writesBill_17 rfl (lv_at hl 0 rfl) ?_
    refine va_get (D := D) (ci := 12) (v := .ref (h0 1)) (C := RX13) (T := TX13) (N := 16) hx hb hts iX13 hown hK hP 0 rfl rfl 0 (by decide) (hts _ qfl_X13_7) (fun _ h9 => h9) rfl dX13_writesBill_18 ?_
    refine lv_bipush (v := 6) hx hb dX13_writesBill_21 (by decide) ?_
    refine xIald hx hb hK hP 1 0 rfl rfl (x_lit (k := 6) (by decide)) dX13_writesBill_23 ?_
    refine lv_topi (fun x3 ex3 => ?_)
    have h := x_let h ex3
    refine lv_istore_n (lv' := [(2, .int x3), (0, .ref (h0 0)), (1, .int a1)]) hx hb dX13_writesBill_24 rfl hl (by decide) rfl (fun ls hl => ?_)
    refine lv_iload_n hx hb dX13_writesBill_25 rfl (lv_at hl 0 rfl) ?_
    refine lv_bipush (v := 10) hx hb dX13_writesBill_26 (by decide) ?_
    refine lv_icmp_ne (tgt := 37) hx hb dX13_writesBill_28 (by decide) (fun c4 => ?_) (fun c4 => ?_)
    · have h := x_f h c4
      refine lv_aload_n hx hb dX13_writesBill_37 rfl (lv_at hl 1 rfl) ?_
      refine va_get (D := D) (ci := 12) (v := .ref (h0 1)) (C := RX13) (T := TX13) (N := 16) hx hb hts iX13 hown hK hP 0 rfl rfl 0 (by decide) (hts _ qfl_X13_7) (fun _ h9 => h9) rfl dX13_writesBill_38 ?_
      refine lv_sipush (v := 209) hx hb dX13_writesBill_41 (by decide) ?_
      refine lv_iload_n hx hb dX13_writesBill_44 rfl (lv_at hl 0 rfl) ?_
      refine lv_iadd hx hb dX13_writesBill_45 ?_
      refine lv_aload_n hx hb dX13_writesBill_46 rfl (lv_at hl 1 rfl) ?_
      refine va_get (D := D) (ci := 12) (v := .ref (h0 1)) (C := RX13) (T := TX13) (N := 16) hx hb hts iX13 hown hK hP 0 rfl rfl 0 (by decide) (hts _ qfl_X13_7) (fun _ h9 => h9) rfl dX13_writesBill_47 ?_
      refine lv_bipush (v := 7) hx hb dX13_writesBill_50 (by decide) ?_
      refine xIald hx hb hK hP 1 0 rfl rfl (x_lit (k := 7) (by decide)) dX13_writesBill_52 ?_
      obtain ⟨k5, hk5, h⟩ := x_rd h
      refine xIast (w2 := fun zz => MW cA h0 ((Ms0 s0 zz))) hx hb hK hP hD hS 1 0 rfl rfl hk5 (fun _ => rfl) dX13_writesBill_53 (fun g6 eg6 H locs hP hD hS => ?_)
      have h := x_let h eg6
      have hP : va_P D vwCl (MW cA h0 ((Ms0 s0 g6))) H := hP
      have hD : va_D A (MW cA h0 ((Ms0 s0 g6))) := hD
      refine lv_aload_n hx hb dX13_writesBill_54 rfl (lv_at hl 1 rfl) ?_
      refine va_get (D := D) (ci := 12) (v := .ref (h0 1)) (C := RX13) (T := TX13) (N := 16) hx hb hts iX13 hown hK hP 0 rfl rfl 0 (by decide) (hts _ qfl_X13_7) (fun _ h9 => h9) rfl dX13_writesBill_55 ?_
      refine lv_sipush (v := 219) hx hb dX13_writesBill_58 (by decide) ?_
      refine lv_iload_n hx hb dX13_writesBill_61 rfl (lv_at hl 0 rfl) ?_
      refine lv_iadd hx hb dX13_writesBill_62 ?_
      refine lv_iload_n hx hb dX13_writesBill_63 rfl (lv_at hl 2 rfl) ?_
      obtain ⟨k7, hk7, h⟩ := x_rd h
      refine xIast (w2 := fun zz => MW cA h0 ((Ms0 s0 zz))) hx hb hK hP hD hS 1 0 rfl rfl hk7 (fun _ => rfl) dX13_writesBill_64 (fun g8 eg8 H locs hP hD hS => ?_)
      have h := x_let h eg8
      have hP : va_P D vwCl (MW cA h0 ((Ms0 s0 g8))) H := hP
      have hD : va_D A (MW cA h0 ((Ms0 s0 g8))) := hD
      refine lv_aload_n hx hb dX13_writesBill_65 rfl (lv_at hl 1 rfl) ?_
      refine va_get (D := D) (ci := 12) (v := .ref (h0 1)) (C := RX13) (T := TX13) (N := 16) hx hb hts iX13 hown hK hP 0 rfl rfl 0 (by decide) (hts _ qfl_X13_7) (fun _ h9 => h9) rfl dX13_writesBill_66 ?_
      refine lv_bipush (v := 6) hx hb dX13_writesBill_69 (by decide) ?_
      refine lv_dup2_11 hx hb dX13_writesBill_71 rfl rfl ?_
      refine xIald hx hb hK hP 1 0 rfl rfl (x_lit (k := 6) (by decide)) dX13_writesBill_72 ?_
      refine lv_iconst (v := 1) hx hb dX13_writesBill_73 (by decide) ?_
      refine lv_iadd hx hb dX13_writesBill_74 ?_
      refine xIast (w2 := fun zz => MW cA h0 ((Ms0 s0 zz))) hx hb hK hP hD hS 1 0 rfl rfl (x_lit (k := 6) (by decide)) (fun _ => rfl) dX13_writesBill_75 (fun g9 eg9 H locs hP hD hS => ?_)
      have h := x_let h eg9
      have hP : va_P D vwCl (MW cA h0 ((Ms0 s0 g9))) H := hP
      have hD : va_D A (MW cA h0 ((Ms0 s0 g9))) := hD
      refine lv_aload_n hx hb dX13_writesBill_76 rfl (lv_at hl 1 rfl) ?_
      refine va_get (D := D) (ci := 12) (v := .ref (h0 1)) (C := RX13) (T := TX13) (N := 16) hx hb hts iX13 hown hK hP 0 rfl rfl 0 (by decide) (hts _ qfl_X13_7) (fun _ h9 => h9) rfl dX13_writesBill_77 ?_
      refine lv_bipush (v := 7) hx hb dX13_writesBill_80 (by decide) ?_
      refine lv_dup2_11 hx hb dX13_writesBill_82 rfl rfl ?_
      refine xIald hx hb hK hP 1 0 rfl rfl (x_lit (k := 7) (by decide)) dX13_writesBill_83 ?_
      refine lv_iconst (v := 1) hx hb dX13_writesBill_84 (by decide) ?_
      refine lv_iadd hx hb dX13_writesBill_85 ?_
      refine xIast (w2 := fun zz => MW cA h0 ((Ms0 s0 zz))) hx hb hK hP hD hS 1 0 rfl rfl (x_lit (k := 7) (by decide)) (fun _ => rfl) dX13_writesBill_86 (fun g10 eg10 H locs hP hD hS => ?_)
      have h := x_let h eg10
      have hP : va_P D vwCl (MW cA h0 ((Ms0 s0 g10))) H := hP
      have hD : va_D A (MW cA h0 ((Ms0 s0 g10))) := hD
      refine lv_aload_n hx hb dX13_writesBill_87 rfl (lv_at hl 1 rfl) ?_
      refine lv_iconst (v := 2) hx hb dX13_writesBill_88 (by decide) ?_
      refine lv_iconst (v := 4) hx hb dX13_writesBill_89 (by decide) ?_
      refine lv_iload_n hx hb dX13_writesBill_90 rfl (lv_at hl 2 rfl) ?_
      refine lv_iconst (v := 0) hx hb dX13_writesBill_91 (by decide) ?_
      obtain ⟨q11, c11, h⟩ := x_call h
      refine xCall (w2 := MW cA h0 q11.2) (xRunV (n := 4) (As := [.int 2, .int 4, .int a1, .int 0]) (rest := []) ⟨hx, hb, hml, hown, hts⟩ (kX13_enters l D cA h0 _ N 2 4 a1 0 ((Ms0 s0 g10)) q11 c11) qco_X13_enters qml_X13_84 qin_X13_enters qse_X13_enters qini_X13 (by decide +kernel) (by rw [← erm]; rfl) hK hP hD [0, 1, 2, 3, 4, 5, 6, 7] rfl rfl (q0 := 0) rfl rfl rfl rfl rfl hl.1 rfl (lv_room (Nat.le_of_ble_eq_true rfl)) dX13_writesBill_92 ⟨Nat.zero_le _, Nat.zero_le _⟩) hP hD hS hA [0, 1, 2, 3, 4, 5, 6, 7] [] [0, 1, 2, 3, 4, 5, 6, 7] rfl (wr := []) rfl rfl rfl rfl rfl (fun H locs hP hD hS => ?_)
      refine lv_istore_n (lv' := [(3, .int q11.1), (2, .int x3), (0, .ref (h0 0)), (1, .int a1)]) hx hb dX13_writesBill_95 rfl hl (by decide) rfl (fun ls hl => ?_)
      refine lv_aload_n hx hb dX13_writesBill_96 rfl (lv_at hl 2 rfl) ?_
      refine lv_aload_n hx hb dX13_writesBill_97 rfl (lv_at hl 2 rfl) ?_
      refine va_get (D := D) (ci := 12) (v := .ref (h0 1)) (C := RX13) (T := TX13) (N := 16) hx hb hts iX13 hown hK hP 0 rfl rfl 0 (by decide) (hts _ qfl_X13_7) (fun _ h9 => h9) rfl dX13_writesBill_98 ?_
      refine lv_bipush (v := 7) hx hb dX13_writesBill_101 (by decide) ?_
      refine xIald hx hb hK hP 1 0 rfl rfl (x_lit (k := 7) (by decide)) dX13_writesBill_103 ?_
      refine lv_iconst (v := 1) hx hb dX13_writesBill_104 (by decide) ?_
      refine lv_isub hx hb dX13_writesBill_105 ?_
      obtain ⟨q12, c12, h⟩ := x_call h
      refine xCall (w2 := MW cA h0 q12.2) (xRunV (n := 1) (As := [.int ((q11.2.1 7) - 1)]) (rest := []) ⟨hx, hb, hml, hown, hts⟩ (kX13_done l D cA h0 _ N ((q11.2.1 7) - 1) q11.2 q12 c12) qco_X13_done qml_X13_60 qin_X13_done qse_X13_done qini_X13 (by decide +kernel) (by rw [← erm]; rfl) hK hP hD [0, 1, 2, 3, 4, 5, 6, 7] rfl rfl (q0 := 0) rfl rfl rfl rfl rfl hl.1 rfl (lv_room (Nat.le_of_ble_eq_true rfl)) dX13_writesBill_106 ⟨Nat.zero_le _, Nat.zero_le _⟩) hP hD hS hA [0, 1, 2, 3, 4, 5, 6, 7] [] [0, 1, 2, 3, 4, 5, 6, 7] rfl (wr := []) rfl rfl rfl rfl rfl (fun H locs hP hD hS => ?_)
      have h := Option.some.inj h
      subst h
      exact xIret hx hb hr hlocks hP hK hD hS dX13_writesBill_109
    · have h := x_t h c4
      refine lv_aload_n hx hb dX13_writesBill_31 rfl (lv_at hl 1 rfl) ?_
      refine lv_iconst (v := 2) hx hb dX13_writesBill_32 (by decide) ?_
      obtain ⟨q13, c13, h⟩ := x_call h
      refine xCall (w2 := MW cA h0 q13.2) (xRunV (n := 1) (As := [.int 2]) (rest := []) ⟨hx, hb, hml, hown, hts⟩ (kX13_fails l D cA h0 _ N 2 s0 q13 c13) qco_X13_fails qml_X13_57 qin_X13_fails qse_X13_fails qini_X13 (by decide +kernel) (by rw [← erm]; rfl) hK hP hD [0, 1, 2, 3, 4, 5, 6, 7] rfl rfl (q0 := 0) rfl rfl rfl rfl rfl hl.1 rfl (lv_room (Nat.le_of_ble_eq_true rfl)) dX13_writesBill_33 ⟨Nat.zero_le _, Nat.zero_le _⟩) hP hD hS hA [0, 1, 2, 3, 4, 5, 6, 7] [] [0, 1, 2, 3, 4, 5, 6, 7] rfl (wr := []) rfl rfl rfl rfl rfl (fun H locs hP hD hS => ?_)
      have h := Option.some.inj h
      subst h
      exact xIret hx hb hr hlocks hP hK hD hS dX13_writesBill_36
  · have h := x_t h c2
    refine lv_aload_n hx hb dX13_writesBill_11 rfl (lv_at hl 0 rfl) ?_
    refine lv_iconst (v := 1) hx hb dX13_writesBill_12 (by decide) ?_
    obtain ⟨q14, c14, h⟩ := x_call h
    refine xCall (w2 := MW cA h0 q14.2) (xRunV (n := 1) (As := [.int 1]) (rest := []) ⟨hx, hb, hml, hown, hts⟩ (kX13_fails l D cA h0 _ N 1 s0 q14 c14) qco_X13_fails qml_X13_57 qin_X13_fails qse_X13_fails qini_X13 (by decide +kernel) (by rw [← erm]; rfl) hK hP hD [0, 1, 2, 3, 4, 5, 6, 7] rfl rfl (q0 := 0) rfl rfl rfl rfl rfl hl.1 rfl (lv_room (Nat.le_of_ble_eq_true rfl)) dX13_writesBill_13 ⟨Nat.zero_le _, Nat.zero_le _⟩) hP hD hS hA [0, 1, 2, 3, 4, 5, 6, 7] [] [0, 1, 2, 3, 4, 5, 6, 7] rfl (wr := []) rfl rfl rfl rfl rfl (fun H locs hP hD hS => ?_)
    have h := Option.some.inj h
    subst h
    exact xIret hx hb hr hlocks hP hK hD hS dX13_writesBill_16
def fX13_bill (N : Nat) (a1 : Int32) (s0 : MS) : Option (Int32 × MS) :=
  xcall (fX13_begin N s0) fun q1 =>
  xcall (fX13_writesBill N a1 q1) fun q2 =>
  xcall (fX13_kept N q2.1 q2.2) fun q3 =>
  some (q3.1, q3.2)
set_option maxRecDepth 100000 in
set_option maxHeartbeats 4000000 in
theorem kX13_bill (l : Launch) (D : va_G) (cA : Nat → ClassId) (h0 : Nat → Nat) (sz N : Nat) (a1 : Int32) (s0 : MS) (q : Int32 × MS) (h : fX13_bill N a1 s0 = some q) : xM l yX13_bill cX13_bill 2 (some .int) ({ frames := 2, cells := 0, slots := 0, locals := 49 }) D cA (MW cA h0 s0) sz [.ref (h0 0), .int a1] (some (.int q.1)) (MW cA h0 q.2) := by
  generalize erm : ({ frames := 2, cells := 0, slots := 0, locals := 49 } : Room) = rm
  refine xMet (by decide) (Nat.le_of_ble_eq_true rfl) ?_
  intro p e s m below meth c hx hb hr hlocks hml hts hown hin hK hP A eA hD hS hA hsz ls hl
  have hl : lv_has ls 2 [(0, .ref (h0 0)), (1, .int a1)] := hl
  clear eA
  rw [fX13_bill] at h
  refine lv_aload_n hx hb dX13_bill_0 rfl (lv_at hl 0 rfl) ?_
  obtain ⟨q1, c1, h⟩ := x_call h
  refine xCall (w2 := MW cA h0 q1) (xRunV (n := 0) (As := []) (rest := []) ⟨hx, hb, hml, hown, hts⟩ (kX13_begin l D cA h0 _ N s0 q1 c1) qco_X13_begin qml_X13_63 qin_X13_begin qse_X13_begin qini_X13 (by decide +kernel) (by rw [← erm]; rfl) hK hP hD [0, 1, 2, 3, 4, 5, 6, 7] rfl rfl (q0 := 0) rfl rfl rfl rfl rfl hl.1 rfl (lv_room (Nat.le_of_ble_eq_true rfl)) dX13_bill_1 ⟨Nat.zero_le _, Nat.zero_le _⟩) hP hD hS hA [0, 1, 2, 3, 4, 5, 6, 7] [] [0, 1, 2, 3, 4, 5, 6, 7] rfl (wr := []) rfl rfl rfl rfl rfl (fun H locs hP hD hS => ?_)
  refine lv_aload_n hx hb dX13_bill_4 rfl (lv_at hl 0 rfl) ?_
  refine lv_aload_n hx hb dX13_bill_5 rfl (lv_at hl 0 rfl) ?_
  refine lv_iload_n hx hb dX13_bill_6 rfl (lv_at hl 1 rfl) ?_
  obtain ⟨q2, c2, h⟩ := x_call h
  refine xCall (w2 := MW cA h0 q2.2) (xRunV (n := 1) (As := [.int a1]) (rest := [.ref (h0 0)]) ⟨hx, hb, hml, hown, hts⟩ (kX13_writesBill l D cA h0 _ N a1 q1 q2 c2) qco_X13_writesBill qml_X13_133 qin_X13_writesBill qse_X13_writesBill qini_X13 (by decide +kernel) (by rw [← erm]; rfl) hK hP hD [0, 1, 2, 3, 4, 5, 6, 7] rfl rfl (q0 := 0) rfl rfl rfl rfl rfl hl.1 rfl (lv_room (Nat.le_of_ble_eq_true rfl)) dX13_bill_7 ⟨Nat.zero_le _, Nat.zero_le _⟩) hP hD hS hA [0, 1, 2, 3, 4, 5, 6, 7] [] [0, 1, 2, 3, 4, 5, 6, 7] rfl (wr := []) rfl rfl rfl rfl rfl (fun H locs hP hD hS => ?_)
  obtain ⟨q3, c3, h⟩ := x_call h
  refine xCall (w2 := MW cA h0 q3.2) (xRunV (n := 1) (As := [.int q2.1]) (rest := []) ⟨hx, hb, hml, hown, hts⟩ (kX13_kept l D cA h0 _ N q2.1 q2.2 q3 c3) qco_X13_kept qml_X13_74 qin_X13_kept qse_X13_kept qini_X13 (by decide +kernel) (by rw [← erm]; rfl) hK hP hD [0, 1, 2, 3, 4, 5, 6, 7] rfl rfl (q0 := 0) rfl rfl rfl rfl rfl hl.1 rfl (lv_room (Nat.le_of_ble_eq_true rfl)) dX13_bill_10 ⟨Nat.zero_le _, Nat.zero_le _⟩) hP hD hS hA [0, 1, 2, 3, 4, 5, 6, 7] [] [0, 1, 2, 3, 4, 5, 6, 7] rfl (wr := []) rfl rfl rfl rfl rfl (fun H locs hP hD hS => ?_)
  have h := Option.some.inj h
  subst h
  exact xIret hx hb hr hlocks hP hK hD hS dX13_bill_13
