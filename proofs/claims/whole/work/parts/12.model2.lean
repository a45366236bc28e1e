/-! the reference, method by method: what it computes, and that its bytes compute it -/
def fX13_members_L4 (N : Nat) (K24 : Int32 → Option (Int32)) : Nat → Int32 → Int32 → Int32 → Option (Int32)
  | 0, _, _, _ => none
  | n + 1, v0_2, v1_2, v2_2 =>
    if 10 ≤ v2_2 then
      K24 v1_2
    else
      xlet (v1_2 + ((v0_2 >>> (v2_2 &&& 31)) &&& 1)) fun x4 =>
      xlet (v2_2 + (1)) fun x5 =>
      fX13_members_L4 N K24 n v0_2 x4 x5
def fX13_members (N : Nat) (a0 : Int32)  : Option (Int32) :=
  xjoin (fun (v1_1 : Int32) =>
      some v1_1
    ) fun K24 =>
  fX13_members_L4 N K24 N a0 0 0
set_option maxRecDepth 100000 in
set_option maxHeartbeats 4000000 in
theorem kX13_members (l : Launch) (D : va_G) (cA : Nat → ClassId)  (sz N : Nat) (a0 : Int32)  (q : Int32) (h : fX13_members N a0 = some q) : xM l yX13_members cX13_members 3 (some .int) ({ frames := 0, cells := 0, slots := 0, locals := 0 }) D cA (([] : va_W)) sz [.int a0] (some (.int q)) (([] : va_W)) := by
  generalize erm : ({ frames := 0, cells := 0, slots := 0, locals := 0 } : Room) = rm
  refine xMet (by decide) (Nat.le_of_ble_eq_true rfl) ?_
  intro p e s m below meth c hx hb hr hlocks hml hts hown hin hK hP A eA hD hS hA hsz ls hl
  have hl : lv_has ls 3 [(0, .int a0)] := hl
  clear eA
  rw [fX13_members] at h
  refine lv_iconst (v := 0) hx hb dX13_members_0 (by decide) ?_
  refine lv_istore_n (lv' := [(1, .int 0), (0, .int a0)]) hx hb dX13_members_1 rfl hl (by decide) rfl (fun ls hl => ?_)
  refine lv_iconst (v := 0) hx hb dX13_members_2 (by decide) ?_
  refine lv_istore_n (lv' := [(2, .int 0), (1, .int 0), (0, .int a0)]) hx hb dX13_members_3 rfl hl (by decide) rfl (fun ls hl => ?_)
  obtain ⟨K24, eK24, h⟩ := x_join h
  have hJ_K24 : ∀ (v1_1 : Int32) (H : Heap) (locs : List Loc), va_P D vwCl (([] : va_W)) H → va_D A (([] : va_W)) → va_S A s.heap H locs → ∀ ls : Array Slot, lv_has ls 3 [(1, .int v1_1)] → K24 v1_1 = some q → W p l e rm s m ([.int a0] : List Value).toArray below meth c H locs 0 0 (MQ below (xQ D cA A (([] : va_W)) (some (.int q))) ([.int a0] : List Value).toArray s 0 0 A) (F0 m 24 ls []) := by
    clear h hP hD hS hl
    intro v1_1 H locs hP hD hS ls hl h
    rw [eK24] at h
    refine lv_iload_n hx hb dX13_members_24 rfl (lv_at hl 0 rfl) ?_
    have h := Option.some.inj h
    subst h
    exact xIret hx hb hr hlocks hP hK hD hS dX13_members_25
  have hL4 : ∀ (n : Nat) (v0_2 : Int32) (v1_2 : Int32) (v2_2 : Int32) (H : Heap) (locs : List Loc), va_P D vwCl (([] : va_W)) H → va_D A (([] : va_W)) → va_S A s.heap H locs → ∀ ls : Array Slot, lv_has ls 3 [(0, .int v0_2), (1, .int v1_2), (2, .int v2_2)] → fX13_members_L4 N K24 n v0_2 v1_2 v2_2 = some q → W p l e rm s m ([.int a0] : List Value).toArray below meth c H locs 0 0 (MQ below (xQ D cA A (([] : va_W)) (some (.int q))) ([.int a0] : List Value).toArray s 0 0 A) (F0 m 4 ls []) := by
    clear h hP hD hS hl
    intro n
    induction n with
    | zero => intro v0_2 v1_2 v2_2 H locs hP hD hS ls hl h; rw [fX13_members_L4] at h; cases h
    | succ n ih =>
      intro v0_2 v1_2 v2_2 H locs hP hD hS ls hl h
      rw [fX13_members_L4] at h
      refine lv_iload_n hx hb dX13_members_4 rfl (lv_at hl 2 rfl) ?_
      refine lv_bipush (v := 10) hx hb dX13_members_5 (by decide) ?_
      refine lv_icmp_ge (tgt := 24) hx hb dX13_members_7 (by decide) (fun c3 => ?_) (fun c3 => ?_)
      · have h := x_t h c3
        exact hJ_K24 v1_2 _ _ hP hD hS _ (lv_sub hl [1] rfl) h
      · have h := x_f h c3
        refine lv_iload_n hx hb dX13_members_10 rfl (lv_at hl 1 rfl) ?_
        refine lv_iload_n hx hb dX13_members_11 rfl (lv_at hl 0 rfl) ?_
        refine lv_iload_n hx hb dX13_members_12 rfl (lv_at hl 2 rfl) ?_
        refine lv_ishr hx hb dX13_members_13 ?_
        refine lv_iconst (v := 1) hx hb dX13_members_14 (by decide) ?_
        refine lv_iand hx hb dX13_members_15 ?_
        refine lv_iadd hx hb dX13_members_16 ?_
        refine lv_topi (fun x4 ex4 => ?_)
        have h := x_let h ex4
        refine lv_istore_n (lv' := [(1, .int x4), (0, .int v0_2), (2, .int v2_2)]) hx hb dX13_members_17 rfl hl (by decide) rfl (fun ls hl => ?_)
        obtain ⟨x5, ex5⟩ : ∃ y : Int32, y = v2_2 + (1) := ⟨_, rfl⟩
        have h := x_let h ex5
        refine lv_iinc (v := x5) (lv' := [(2, .int x5), (1, .int x4), (0, .int v0_2)]) hx hb dX13_members_18 hl (k := 2) rfl (by rw [ex5]; rfl) (by decide) rfl (fun ls hl => ?_)
        refine lv_goto (tgt := 4) hx hb dX13_members_21 (by decide) ?_
        exact ih v0_2 x4 x5 _ _ hP hD hS _ (lv_sub hl [2, 1, 0] rfl) h
  exact hL4 N a0 0 0 _ _ hP hD hS _ (lv_sub hl [2, 1, 0] rfl) h
def fX13_owedBy_L4 (N : Nat) (s0 : MS) (K47 : Int32 → Option (Int32)) : Nat → Int32 → Int32 → Int32 → Option (Int32)
  | 0, _, _, _ => none
  | n + 1, v1_2, v2_2, v3_2 =>
    if (s0.1 6) ≤ v3_2 then
      K47 v2_2
    else
      xjoin (fun (t0_4 : Int32) (t1_4 : Int32) (v1_4 : Int32) (v3_4 : Int32) =>
          xlet (t1_4 + t0_4) fun x5 =>
          xlet (v3_4 + (1)) fun x6 =>
          fX13_owedBy_L4 N s0 K47 n v1_4 x5 x6
        ) fun J39 =>
      if ((v1_2 >>> (v3_2 &&& 31)) &&& 1) = 1 then
        xrd 229 (219 + v3_2) fun k8 =>
        J39 (s0.1 k8) v2_2 v1_2 v3_2
      else
        J39 0 v2_2 v1_2 v3_2
def fX13_owedBy (N : Nat) (a1 : Int32) (s0 : MS) : Option (Int32) :=
  xjoin (fun (v2_1 : Int32) =>
      some v2_1
    ) fun K47 =>
  fX13_owedBy_L4 N s0 K47 N a1 0 0
set_option maxRecDepth 100000 in
set_option maxHeartbeats 4000000 in
theorem kX13_owedBy (l : Launch) (D : va_G) (cA : Nat → ClassId) (h0 : Nat → Nat) (sz N : Nat) (a1 : Int32) (s0 : MS) (q : Int32) (h : fX13_owedBy N a1 s0 = some q) : xM l yX13_owedBy cX13_owedBy 4 (some .int) ({ frames := 0, cells := 0, slots := 0, locals := 0 }) D cA (MW cA h0 s0) sz [.ref (h0 0), .int a1] (some (.int q)) (MW cA h0 s0) := by
  generalize erm : ({ frames := 0, cells := 0, slots := 0, locals := 0 } : Room) = rm
  refine xMet (by decide) (Nat.le_of_ble_eq_true rfl) ?_
  intro p e s m below meth c hx hb hr hlocks hml hts hown hin hK hP A eA hD hS hA hsz ls hl
  have hl : lv_has ls 4 [(0, .ref (h0 0)), (1, .int a1)] := hl
  clear eA
  rw [fX13_owedBy] at h
  refine lv_iconst (v := 0) hx hb dX13_owedBy_0 (by decide) ?_
  refine lv_istore_n (lv' := [(2, .int 0), (0, .ref (h0 0)), (1, .int a1)]) hx hb dX13_owedBy_1 rfl hl (by decide) rfl (fun ls hl => ?_)
  refine lv_iconst (v := 0) hx hb dX13_owedBy_2 (by decide) ?_
  refine lv_istore_n (lv' := [(3, .int 0), (2, .int 0), (0, .ref (h0 0)), (1, .int a1)]) hx hb dX13_owedBy_3 rfl hl (by decide) rfl (fun ls hl => ?_)
  obtain ⟨K47, eK47, h⟩ := x_join h
  have hJ_K47 : ∀ (v2_1 : Int32) (H : Heap) (locs : List Loc), va_P D vwCl (MW cA h0 s0) H → va_D A (MW cA h0 s0) → va_S A s.heap H locs → ∀ ls : Array Slot, lv_has ls 4 [(2, .int v2_1)] → K47 v2_1 = some q → W p l e rm s m ([.ref (h0 0), .int a1] : List Value).toArray below meth c H locs 0 0 (MQ below (xQ D cA A (MW cA h0 s0) (some (.int q))) ([.ref (h0 0), .int a1] : List Value).toArray s 0 0 A) (F0 m 47 ls []) := by
    clear h hP hD hS hl
    intro v2_1 H locs hP hD hS ls hl h
    rw [eK47] at h
    refine lv_iload_n hx hb dX13_owedBy_47 rfl (lv_at hl 0 rfl) ?_
    have h := Option.some.inj h
    subst h
    exact xIret hx hb hr hlocks hP hK hD hS dX13_owedBy_48
  have hL4 : ∀ (n : Nat) (v1_2 : Int32) (v2_2 : Int32) (v3_2 : Int32) (H : Heap) (locs : List Loc), va_P D vwCl (MW cA h0 s0) H → va_D A (MW cA h0 s0) → va_S A s.heap H locs → ∀ ls : Array Slot, lv_has ls 4 [(0, .ref (h0 0)), (1, .int v1_2), (2, .int v2_2), (3, .int v3_2)] → fX13_owedBy_L4 N s0 K47 n v1_2 v2_2 v3_2 = some q → W p l e rm s m ([.ref (h0 0), .int a1] : List Value).toArray below meth c H locs 0 0 (MQ below (xQ D cA A (MW cA h0 s0) (some (.int q))) ([.ref (h0 0), .int a1] : List Value).toArray s 0 0 A) (F0 m 4 ls []) := by
    clear h hP hD hS hl
    intro n
    induction n with
    | zero => intro v1_2 v2_2 v3_2 H locs hP hD hS ls hl h; rw [fX13_owedBy_L4] at h; cases h
    | succ n ih =>
      intro v1_2 v2_2 v3_2 H locs hP hD hS ls hl h
      rw [fX13_owedBy_L4] at h
      refine lv_iload_n hx hb dX13_owedBy_4 rfl (lv_at hl 3 rfl) ?_
      refine lv_aload_n hx hb dX13_owedBy_5 rfl (lv_at hl 0 rfl) ?_
      refine va_get (D := D) (ci := 12) (v := .ref (h0 1)) (C := RX13) (T := TX13) (N := 16) hx hb hts iX13 hown hK hP 0 rfl rfl 0 (by decide) (hts _ qfl_X13_7) (fun _ h9 => h9) rfl dX13_owedBy_6 ?_
      refine lv_bipush (v := 6) hx hb dX13_owedBy_9 (by decide) ?_
      refine xIald hx hb hK hP 1 0 rfl rfl (x_lit (k := 6) (by decide)) dX13_owedBy_11 ?_
      refine lv_icmp_ge (tgt := 47) hx hb dX13_owedBy_12 (by decide) (fun c3 => ?_) (fun c3 => ?_)
      · have h := x_t h c3
        exact hJ_K47 v2_2 _ _ hP hD hS _ (lv_sub hl [2] rfl) h
      · have h := x_f h c3
        refine lv_iload_n hx hb dX13_owedBy_15 rfl (lv_at hl 2 rfl) ?_
        refine lv_iload_n hx hb dX13_owedBy_16 rfl (lv_at hl 1 rfl) ?_
        refine lv_iload_n hx hb dX13_owedBy_17 rfl (lv_at hl 3 rfl) ?_
        refine lv_ishr hx hb dX13_owedBy_18 ?_
        refine lv_iconst (v := 1) hx hb dX13_owedBy_19 (by decide) ?_
        refine lv_iand hx hb dX13_owedBy_20 ?_
        refine lv_iconst (v := 1) hx hb dX13_owedBy_21 (by decide) ?_
        obtain ⟨J39, eJ39, h⟩ := x_join h
        have hJ_J39 : ∀ (t0_4 : Int32) (t1_4 : Int32) (v1_4 : Int32) (v3_4 : Int32) (H : Heap) (locs : List Loc), va_P D vwCl (MW cA h0 s0) H → va_D A (MW cA h0 s0) → va_S A s.heap H locs → ∀ ls : Array Slot, lv_has ls 4 [(0, .ref (h0 0)), (1, .int v1_4), (3, .int v3_4)] → J39 t0_4 t1_4 v1_4 v3_4 = some q → W p l e rm s m ([.ref (h0 0), .int a1] : List Value).toArray below meth c H locs 0 0 (MQ below (xQ D cA A (MW cA h0 s0) (some (.int q))) ([.ref (h0 0), .int a1] : List Value).toArray s 0 0 A) (F0 m 39 ls [.int t0_4, .int t1_4]) := by
          clear h hP hD hS hl
          intro t0_4 t1_4 v1_4 v3_4 H locs hP hD hS ls hl h
          rw [eJ39] at h
          refine lv_iadd hx hb dX13_owedBy_39 ?_
          refine lv_topi (fun x5 ex5 => ?_)
          have h := x_let h ex5
          refine lv_istore_n (lv' := [(2, .int x5), (0, .ref (h0 0)), (1, .int v1_4), (3, .int v3_4)]) hx hb dX13_owedBy_40 rfl hl (by decide) rfl (fun ls hl => ?_)
          obtain ⟨x6, ex6⟩ : ∃ y : Int32, y = v3_4 + (1) := ⟨_, rfl⟩
          have h := x_let h ex6
          refine lv_iinc (v := x6) (lv' := [(3, .int x6), (2, .int x5), (0, .ref (h0 0)), (1, .int v1_4)]) hx hb dX13_owedBy_41 hl (k := 3) rfl (by rw [ex6]; rfl) (by decide) rfl (fun ls hl => ?_)
          refine lv_goto (tgt := 4) hx hb dX13_owedBy_44 (by decide) ?_
          exact ih v1_4 x5 x6 _ _ hP hD hS _ (lv_sub hl [2, 3, 1, 0] rfl) h
        refine lv_icmp_ne (tgt := 38) hx hb dX13_owedBy_22 (by decide) (fun c7 => ?_) (fun c7 => ?_)
        · have h := x_f h c7
          refine lv_iconst (v := 0) hx hb dX13_owedBy_38 (by decide) ?_
          exact hJ_J39 0 v2_2 v1_2 v3_2 _ _ hP hD hS _ (lv_sub hl [0, 1, 3] rfl) h
        · have h := x_t h c7
          refine lv_aload_n hx hb dX13_owedBy_25 rfl (lv_at hl 0 rfl) ?_
          refine va_get (D := D) (ci := 12) (v := .ref (h0 1)) (C := RX13) (T := TX13) (N := 16) hx hb hts iX13 hown hK hP 0 rfl rfl 0 (by decide) (hts _ qfl_X13_7) (fun _ h9 => h9) rfl dX13_owedBy_26 ?_
          refine lv_sipush (v := 219) hx hb dX13_owedBy_29 (by decide) ?_
          refine lv_iload_n hx hb dX13_owedBy_32 rfl (lv_at hl 3 rfl) ?_
          refine lv_iadd hx hb dX13_owedBy_33 ?_
          obtain ⟨k8, hk8, h⟩ := x_rd h
          refine xIald hx hb hK hP 1 0 rfl rfl hk8 dX13_owedBy_34 ?_
          refine lv_goto (tgt := 39) hx hb dX13_owedBy_35 (by decide) ?_
          exact hJ_J39 (s0.1 k8) v2_2 v1_2 v3_2 _ _ hP hD hS _ (lv_sub hl [0, 1, 3] rfl) h
  exact hL4 N a1 0 0 _ _ hP hD hS _ (lv_sub hl [2, 3, 1, 0] rfl) h
def fX13_isAhead (N : Nat) (a0 : Int32) (a1 : Int32)  : Option (Int32) :=
  xcall (fX13_members N a1) fun q1 =>
  xcall (fX13_members N a0) fun q2 =>
  xlet (q1 - q2) fun x3 =>
  xlet (a0 ^^^ a1) fun x4 =>
  xjoin (fun (t0_5 : Int32) =>
      xnz (xnar .boolean t0_5) <|
      some t0_5
    ) fun J36 =>
  xjoin (fun (u_7 : Unit) =>
      J36 1
    ) fun J31 =>
  if 0 < x3 then
    J31 ()
  else
    xjoin (fun (u_9 : Unit) =>
        J36 0
      ) fun J35 =>
    if x3 = 0 then
      if ((a0 &&& x4) &&& (-x4)) = 0 then
        J35 ()
      else
        J31 ()
    else
      J35 ()
set_option maxRecDepth 100000 in
set_option maxHeartbeats 4000000 in
theorem kX13_isAhead (l : Launch) (D : va_G) (cA : Nat → ClassId)  (sz N : Nat) (a0 : Int32) (a1 : Int32)  (q : Int32) (h : fX13_isAhead N a0 a1 = some q) : xM l yX13_isAhead cX13_isAhead 4 (some .boolean) ({ frames := 1, cells := 0, slots := 0, locals := 22 }) D cA (([] : va_W)) sz [.int a0, .int a1] (some (.int q)) (([] : va_W)) := by
  generalize erm : ({ frames := 1, cells := 0, slots := 0, locals := 22 } : Room) = rm
  refine xMet (by decide) (Nat.le_of_ble_eq_true rfl) ?_
  intro p e s m below meth c hx hb hr hlocks hml hts hown hin hK hP A eA hD hS hA hsz ls hl
  have hl : lv_has ls 4 [(0, .int a0), (1, .int a1)] := hl
  clear eA
  rw [fX13_isAhead] at h
  refine lv_iload_n hx hb dX13_isAhead_0 rfl (lv_at hl 1 rfl) ?_
  obtain ⟨q1, c1, h⟩ := x_call h
  refine xCall (w2 := ([] : va_W)) (xRunS (n := 1) (As := [.int a1]) (rest := []) ⟨hx, hb, hml, hown, hts⟩ (kX13_members l D cA  _ N a1 q1 c1) qco_X13_members qml_X13_136 qst_X13_members qini_X13 (by decide +kernel) (by rw [← erm]; rfl) hK hP hD [] rfl rfl rfl rfl hl.1 rfl (lv_room (Nat.le_of_ble_eq_true rfl)) dX13_isAhead_1 ⟨Nat.zero_le _, Nat.zero_le _⟩) hP hD hS hA [] [] [] rfl (wr := []) rfl rfl rfl rfl rfl (fun H locs hP hD hS => ?_)
  refine lv_iload_n hx hb dX13_isAhead_4 rfl (lv_at hl 0 rfl) ?_
  obtain ⟨q2, c2, h⟩ := x_call h
  refine xCall (w2 := ([] : va_W)) (xRunS (n := 1) (As := [.int a0]) (rest := [.int q1]) ⟨hx, hb, hml, hown, hts⟩ (kX13_members l D cA  _ N a0 q2 c2) qco_X13_members qml_X13_136 qst_X13_members qini_X13 (by decide +kernel) (by rw [← erm]; rfl) hK hP hD [] rfl rfl rfl rfl hl.1 rfl (lv_room (Nat.le_of_ble_eq_true rfl)) dX13_isAhead_5 ⟨Nat.zero_le _, Nat.zero_le _⟩) hP hD hS hA [] [] [] rfl (wr := []) rfl rfl rfl rfl rfl (fun H locs hP hD hS => ?_)
  refine lv_isub hx hb dX13_isAhead_8 ?_
  refine lv_topi (fun x3 ex3 => ?_)
  have h := x_let h ex3
  refine lv_istore_n (lv' := [(2, .int x3), (0, .int a0), (1, .int a1)]) hx hb dX13_isAhead_9 rfl hl (by decide) rfl (fun ls hl => ?_)
  refine lv_iload_n hx hb dX13_isAhead_10 rfl (lv_at hl 1 rfl) ?_
  refine lv_iload_n hx hb dX13_isAhead_11 rfl (lv_at hl 2 rfl) ?_
  refine lv_ixor hx hb dX13_isAhead_12 ?_
  refine lv_topi (fun x4 ex4 => ?_)
  have h := x_let h ex4
  refine lv_istore_n (lv' := [(3, .int x4), (2, .int x3), (0, .int a0), (1, .int a1)]) hx hb dX13_isAhead_13 rfl hl (by decide) rfl (fun ls hl => ?_)
  refine lv_iload_n hx hb dX13_isAhead_14 rfl (lv_at hl 1 rfl) ?_
  obtain ⟨J36, eJ36, h⟩ := x_join h
  have hJ_J36 : ∀ (t0_5 : Int32) (H : Heap) (locs : List Loc), va_P D vwCl (([] : va_W)) H → va_D A (([] : va_W)) → va_S A s.heap H locs → ∀ ls : Array Slot, lv_has ls 4 [] → J36 t0_5 = some q → W p l e rm s m ([.int a0, .int a1] : List Value).toArray below meth c H locs 0 0 (MQ below (xQ D cA A (([] : va_W)) (some (.int q))) ([.int a0, .int a1] : List Value).toArray s 0 0 A) (F0 m 36 ls [.int t0_5]) := by
    clear h hP hD hS hl
    intro t0_5 H locs hP hD hS ls hl h
    rw [eJ36] at h
    obtain ⟨z6, h⟩ := x_nz h
    have h := Option.some.inj h
    subst h
    exact xZret hx hb hr hlocks (xnar_n z6) hP hK hD hS dX13_isAhead_36
  obtain ⟨J31, eJ31, h⟩ := x_join h
  have hJ_J31 : ∀ (u_7 : Unit) (H : Heap) (locs : List Loc), va_P D vwCl (([] : va_W)) H → va_D A (([] : va_W)) → va_S A s.heap H locs → ∀ ls : Array Slot, lv_has ls 4 [] → J31 u_7 = some q → W p l e rm s m ([.int a0, .int a1] : List Value).toArray below meth c H locs 0 0 (MQ below (xQ D cA A (([] : va_W)) (some (.int q))) ([.int a0, .int a1] : List Value).toArray s 0 0 A) (F0 m 31 ls []) := by
    clear h hP hD hS hl
    intro u_7 H locs hP hD hS ls hl h
    rw [eJ31] at h
    refine lv_iconst (v := 1) hx hb dX13_isAhead_31 (by decide) ?_
    refine lv_goto (tgt := 36) hx hb dX13_isAhead_32 (by decide) ?_
    exact hJ_J36 1 _ _ hP hD hS _ (lv_sub hl [] rfl) h
  refine lv_if_gt (tgt := 31) hx hb dX13_isAhead_15 (by decide) (fun c8 => ?_) (fun c8 => ?_)
  · have h := x_t h c8
    exact hJ_J31 () _ _ hP hD hS _ (lv_sub hl [] rfl) h
  · have h := x_f h c8
    refine lv_iload_n hx hb dX13_isAhead_18 rfl (lv_at hl 1 rfl) ?_
    obtain ⟨J35, eJ35, h⟩ := x_join h
    have hJ_J35 : ∀ (u_9 : Unit) (H : Heap) (locs : List Loc), va_P D vwCl (([] : va_W)) H → va_D A (([] : va_W)) → va_S A s.heap H locs → ∀ ls : Array Slot, lv_has ls 4 [] → J35 u_9 = some q → W p l e rm s m ([.int a0, .int a1] : List Value).toArray below meth c H locs 0 0 (MQ below (xQ D cA A (([] : va_W)) (some (.int q))) ([.int a0, .int a1] : List Value).toArray s 0 0 A) (F0 m 35 ls []) := by
      clear h hP hD hS hl
      intro u_9 H locs hP hD hS ls hl h
      rw [eJ35] at h
      refine lv_iconst (v := 0) hx hb dX13_isAhead_35 (by decide) ?_
      exact hJ_J36 0 _ _ hP hD hS _ (lv_sub hl [] rfl) h
    refine lv_if_ne (tgt := 35) hx hb dX13_isAhead_19 (by decide) (fun c10 => ?_) (fun c10 => ?_)
    · have h := x_f h c10
      exact hJ_J35 () _ _ hP hD hS _ (lv_sub hl [] rfl) h
    · have h := x_t h c10
      refine lv_iload_n hx hb dX13_isAhead_22 rfl (lv_at hl 2 rfl) ?_
      refine lv_iload_n hx hb dX13_isAhead_23 rfl (lv_at hl 0 rfl) ?_
      refine lv_iand hx hb dX13_isAhead_24 ?_
      refine lv_iload_n hx hb dX13_isAhead_25 rfl (lv_at hl 0 rfl) ?_
      refine lv_ineg hx hb dX13_isAhead_26 ?_
      refine lv_iand hx hb dX13_isAhead_27 ?_
      refine lv_if_eq (tgt := 35) hx hb dX13_isAhead_28 (by decide) (fun c11 => ?_) (fun c11 => ?_)
      · have h := x_t h c11
        exact hJ_J35 () _ _ hP hD hS _ (lv_sub hl [] rfl) h
      · have h := x_f h c11
        exact hJ_J31 () _ _ hP hD hS _ (lv_sub hl [] rfl) h
def fX13_chosen_L4 (N : Nat) (s0 : MS) (K46 : Int32 → Option (Int32)) : Nat → Int32 → Int32 → Int32 → Option (Int32)
  | 0, _, _, _ => none
  | n + 1, v1_2, v2_2, v3_2 =>
    if (1 <<< ((s0.1 6) &&& 31)) ≤ v3_2 then
      K46 v2_2
    else
      xcall (fX13_owedBy N v3_2 s0) fun q4 =>
      xjoin (fun (v1_5 : Int32) (v2_5 : Int32) (v3_5 : Int32) =>
          xlet (v3_5 + (1)) fun x6 =>
          fX13_chosen_L4 N s0 K46 n v1_5 v2_5 x6
        ) fun J40 =>
      if q4 = v1_2 then
        xjoin (fun (v1_8 : Int32) (v3_8 : Int32) =>
            J40 v1_8 v3_8 v3_8
          ) fun J38 =>
        if v2_2 = 0 then
          J38 v1_2 v3_2
        else
          xcall (fX13_isAhead N v3_2 v2_2) fun q10 =>
          if q10 = 0 then
            J40 v1_2 v2_2 v3_2
          else
            J38 v1_2 v3_2
      else
        J40 v1_2 v2_2 v3_2
def fX13_chosen (N : Nat) (a1 : Int32) (s0 : MS) : Option (Int32) :=
  xjoin (fun (v2_1 : Int32) =>
      some v2_1
    ) fun K46 =>
  fX13_chosen_L4 N s0 K46 N a1 0 1
set_option maxRecDepth 100000 in
set_option maxHeartbeats 4000000 in
theorem kX13_chosen (l : Launch) (D : va_G) (cA : Nat → ClassId) (h0 : Nat → Nat) (sz N : Nat) (a1 : Int32) (s0 : MS) (q : Int32) (h : fX13_chosen N a1 s0 = some q) : xM l yX13_chosen cX13_chosen 4 (some .int) ({ frames := 2, cells := 0, slots := 0, locals := 45 }) D cA (MW cA h0 s0) sz [.ref (h0 0), .int a1] (some (.int q)) (MW cA h0 s0) := by
  generalize erm : ({ frames := 2, cells := 0, slots := 0, locals := 45 } : Room) = rm
  refine xMet (by decide) (Nat.le_of_ble_eq_true rfl) ?_
  intro p e s m below meth c hx hb hr hlocks hml hts hown hin hK hP A eA hD hS hA hsz ls hl
  have hl : lv_has ls 4 [(0, .ref (h0 0)), (1, .int a1)] := hl
  clear eA
  rw [fX13_chosen] at h
  refine lv_iconst (v := 0) hx hb dX13_chosen_0 (by decide) ?_
  refine lv_istore_n (lv' := [(2, .int 0), (0, .ref (h0 0)), (1, .int a1)]) hx hb dX13_chosen_1 rfl hl (by decide) rfl (fun ls hl => ?_)
  refine lv_iconst (v := 1) hx hb dX13_chosen_2 (by decide) ?_
  refine lv_istore_n (lv' := [(3, .int 1), (2, .int 0), (0, .ref (h0 0)), (1, .int a1)]) hx hb dX13_chosen_3 rfl hl (by decide) rfl (fun ls hl => ?_)
  obtain ⟨K46, eK46, h⟩ := x_join h
  have hJ_K46 : ∀ (v2_1 : Int32) (H : Heap) (locs : List Loc), va_P D vwCl (MW cA h0 s0) H → va_D A (MW cA h0 s0) → va_S A s.heap H locs → ∀ ls : Array Slot, lv_has ls 4 [(2, .int v2_1)] → K46 v2_1 = some q → W p l e rm s m ([.ref (h0 0), .int a1] : List Value).toArray below meth c H locs 0 0 (MQ below (xQ D cA A (MW cA h0 s0) (some (.int q))) ([.ref (h0 0), .int a1] : List Value).toArray s 0 0 A) (F0 m 46 ls []) := by
    clear h hP hD hS hl
    intro v2_1 H locs hP hD hS ls hl h
    rw [eK46] at h
    refine lv_iload_n hx hb dX13_chosen_46 rfl (lv_at hl 0 rfl) ?_
    have h := Option.some.inj h
    subst h
    exact xIret hx hb hr hlocks hP hK hD hS dX13_chosen_47
  have hL4 : ∀ (n : Nat) (v1_2 : Int32) (v2_2 : Int32) (v3_2 : Int32) (H : Heap) (locs : List Loc), va_P D vwCl (MW cA h0 s0) H → va_D A (MW cA h0 s0) → va_S A s.heap H locs → ∀ ls : Array Slot, lv_has ls 4 [(0, .ref (h0 0)), (1, .int v1_2), (2, .int v2_2), (3, .int v3_2)] → fX13_chosen_L4 N s0 K46 n v1_2 v2_2 v3_2 = some q → W p l e rm s m ([.ref (h0 0), .int a1] : List Value).toArray below meth c H locs 0 0 (MQ below (xQ D cA A (MW cA h0 s0) (some (.int q))) ([.ref (h0 0), .int a1] : List Value).toArray s 0 0 A) (F0 m 4 ls []) := by
    clear h hP hD hS hl
    intro n
    induction n with
    | zero => intro v1_2 v2_2 v3_2 H locs hP hD hS ls hl h; rw [fX13_chosen_L4] at h; cases h
    | succ n ih =>
      intro v1_2 v2_2 v3_2 H locs hP hD hS ls hl h
      rw [fX13_chosen_L4] at h
      refine lv_iload_n hx hb dX13_chosen_4 rfl (lv_at hl 3 rfl) ?_
      refine lv_iconst (v := 1) hx hb dX13_chosen_5 (by decide) ?_
      refine lv_aload_n hx hb dX13_chosen_6 rfl (lv_at hl 0 rfl) ?_
      refine va_get (D := D) (ci := 12) (v := .ref (h0 1)) (C := RX13) (T := TX13) (N := 16) hx hb hts iX13 hown hK hP 0 rfl rfl 0 (by decide) (hts _ qfl_X13_7) (fun _ h9 => h9) rfl dX13_chosen_7 ?_
      refine lv_bipush (v := 6) hx hb dX13_chosen_10 (by decide) ?_
      refine xIald hx hb hK hP 1 0 rfl rfl (x_lit (k := 6) (by decide)) dX13_chosen_12 ?_
      refine lv_ishl hx hb dX13_chosen_13 ?_
      refine lv_icmp_ge (tgt := 46) hx hb dX13_chosen_14 (by decide) (fun c3 => ?_) (fun c3 => ?_)
      · have h := x_t h c3
        exact hJ_K46 v2_2 _ _ hP hD hS _ (lv_sub hl [2] rfl) h
      · have h := x_f h c3
        refine lv_aload_n hx hb dX13_chosen_17 rfl (lv_at hl 0 rfl) ?_
        refine lv_iload_n hx hb dX13_chosen_18 rfl (lv_at hl 3 rfl) ?_
        obtain ⟨q4, c4, h⟩ := x_call h
        refine xCall (w2 := MW cA h0 s0) (xRunV (n := 1) (As := [.int v3_2]) (rest := []) ⟨hx, hb, hml, hown, hts⟩ (kX13_owedBy l D cA h0 _ N v3_2 s0 q4 c4) qco_X13_owedBy qml_X13_139 qin_X13_owedBy qse_X13_owedBy qini_X13 (by decide +kernel) (by rw [← erm]; rfl) hK hP hD [0, 1, 2, 3, 4, 5, 6, 7] rfl rfl (q0 := 0) rfl rfl rfl rfl rfl hl.1 rfl (lv_room (Nat.le_of_ble_eq_true rfl)) dX13_chosen_19 ⟨Nat.zero_le _, Nat.zero_le _⟩) hP hD hS hA [0, 1, 2, 3, 4, 5, 6, 7] [] [0, 1, 2, 3, 4, 5, 6, 7] rfl (wr := []) rfl rfl rfl rfl rfl (fun H locs hP hD hS => ?_)
        refine lv_iload_n hx hb dX13_chosen_22 rfl (lv_at hl 1 rfl) ?_
        obtain ⟨J40, eJ40, h⟩ := x_join h
        have hJ_J40 : ∀ (v1_5 : Int32) (v2_5 : Int32) (v3_5 : Int32) (H : Heap) (locs : List Loc), va_P D vwCl (MW cA h0 s0) H → va_D A (MW cA h0 s0) → va_S A s.heap H locs → ∀ ls : Array Slot, lv_has ls 4 [(0, .ref (h0 0)), (1, .int v1_5), (2, .int v2_5), (3, .int v3_5)] → J40 v1_5 v2_5 v3_5 = some q → W p l e rm s m ([.ref (h0 0), .int a1] : List Value).toArray below meth c H locs 0 0 (MQ below (xQ D cA A (MW cA h0 s0) (some (.int q))) ([.ref (h0 0), .int a1] : List Value).toArray s 0 0 A) (F0 m 40 ls []) := by
          clear h hP hD hS hl
          intro v1_5 v2_5 v3_5 H locs hP hD hS ls hl h
          rw [eJ40] at h
          obtain ⟨x6, ex6⟩ : ∃ y : Int32, y = v3_5 + (1) := ⟨_, rfl⟩
          have h := x_let h ex6
          refine lv_iinc (v := x6) (lv' := [(3, .int x6), (0, .ref (h0 0)), (1, .int v1_5), (2, .int v2_5)]) hx hb dX13_chosen_40 hl (k := 3) rfl (by rw [ex6]; rfl) (by decide) rfl (fun ls hl => ?_)
          refine lv_goto (tgt := 4) hx hb dX13_chosen_43 (by decide) ?_
          exact ih v1_5 v2_5 x6 _ _ hP hD hS _ (lv_sub hl [1, 2, 3, 0] rfl) h
        refine lv_icmp_ne (tgt := 40) hx hb dX13_chosen_23 (by decide) (fun c7 => ?_) (fun c7 => ?_)
        · have h := x_f h c7
          exact hJ_J40 v1_2 v2_2 v3_2 _ _ hP hD hS _ (lv_sub hl [0, 1, 2, 3] rfl) h
        · have h := x_t h c7
          refine lv_iload_n hx hb dX13_chosen_26 rfl (lv_at hl 2 rfl) ?_
          obtain ⟨J38, eJ38, h⟩ := x_join h
          have hJ_J38 : ∀ (v1_8 : Int32) (v3_8 : Int32) (H : Heap) (locs : List Loc), va_P D vwCl (MW cA h0 s0) H → va_D A (MW cA h0 s0) → va_S A s.heap H locs → ∀ ls : Array Slot, lv_has ls 4 [(0, .ref (h0 0)), (1, .int v1_8), (3, .int v3_8)] → J38 v1_8 v3_8 = some q → W p l e rm s m ([.ref (h0 0), .int a1] : List Value).toArray below meth c H locs 0 0 (MQ below (xQ D cA A (MW cA h0 s0) (some (.int q))) ([.ref (h0 0), .int a1] : List Value).toArray s 0 0 A) (F0 m 38 ls []) := by
            clear h hP hD hS hl
            intro v1_8 v3_8 H locs hP hD hS ls hl h
            rw [eJ38] at h
            refine lv_iload_n hx hb dX13_chosen_38 rfl (lv_at hl 2 rfl) ?_
            refine lv_istore_n (lv' := [(2, .int v3_8), (0, .ref (h0 0)), (1, .int v1_8), (3, .int v3_8)]) hx hb dX13_chosen_39 rfl hl (by decide) rfl (fun ls hl => ?_)
            exact hJ_J40 v1_8 v3_8 v3_8 _ _ hP hD hS _ (lv_sub hl [1, 2, 0, 3] rfl) h
          refine lv_if_eq (tgt := 38) hx hb dX13_chosen_27 (by decide) (fun c9 => ?_) (fun c9 => ?_)
          · have h := x_t h c9
            exact hJ_J38 v1_2 v3_2 _ _ hP hD hS _ (lv_sub hl [0, 1, 3] rfl) h
          · have h := x_f h c9
            refine lv_iload_n hx hb dX13_chosen_30 rfl (lv_at hl 3 rfl) ?_
            refine lv_iload_n hx hb dX13_chosen_31 rfl (lv_at hl 2 rfl) ?_
            obtain ⟨q10, c10, h⟩ := x_call h
            refine xCall (w2 := MW cA h0 s0) (xRunS (n := 2) (As := [.int v3_2, .int v2_2]) (rest := []) ⟨hx, hb, hml, hown, hts⟩ (kX13_isAhead l D cA  _ N v3_2 v2_2 q10 c10) qco_X13_isAhead qml_X13_142 qst_X13_isAhead qini_X13 (by decide +kernel) (by rw [← erm]; rfl) hK hP hD [] rfl rfl rfl rfl hl.1 rfl (lv_room (Nat.le_of_ble_eq_true rfl)) dX13_chosen_32 ⟨Nat.zero_le _, Nat.zero_le _⟩) hP hD hS hA [] [0, 1, 2, 3, 4, 5, 6, 7] [0, 1, 2, 3, 4, 5, 6, 7] rfl (wr := [(h0 0, .inr (12, [.ref (h0 1), .ref (h0 2), .ref (h0 3), .int (s0.2.2.2.1), .ref (h0 4), .int (s0.2.2.2.2.2.1), .ref (h0 5), .int (s0.2.2.2.2.2.2.2.1), .int (s0.2.2.2.2.2.2.2.2.1), .int (s0.2.2.2.2.2.2.2.2.2.1), .ref (h0 6), .int (s0.2.2.2.2.2.2.2.2.2.2.2.1), .int (s0.2.2.2.2.2.2.2.2.2.2.2.2.1), .int (s0.2.2.2.2.2.2.2.2.2.2.2.2.2.1), .int (s0.2.2.2.2.2.2.2.2.2.2.2.2.2.2.1), .ref (h0 7)])), (h0 1, .inl (cA 0, 229, .inl (s0.1))), (h0 2, .inl (cA 0, 229, .inl (s0.2.1))), (h0 3, .inl (cA 0, 1832, .inl (s0.2.2.1))), (h0 4, .inl (cA 0, 229, .inl (s0.2.2.2.2.1))), (h0 5, .inl (cA 1, 60, .inl (s0.2.2.2.2.2.2.1))), (h0 6, .inl (cA 1, 60, .inl (s0.2.2.2.2.2.2.2.2.2.2.1))), (h0 7, .inl (cA 0, 240, .inl (s0.2.2.2.2.2.2.2.2.2.2.2.2.2.2.2)))]) rfl rfl rfl rfl rfl (fun H locs hP hD hS => ?_)
            refine lv_if_eq (tgt := 40) hx hb dX13_chosen_35 (by decide) (fun c11 => ?_) (fun c11 => ?_)
            · have h := x_t h c11
              exact hJ_J40 v1_2 v2_2 v3_2 _ _ hP hD hS _ (lv_sub hl [0, 1, 2, 3] rfl) h
            · have h := x_f h c11
              exact hJ_J38 v1_2 v3_2 _ _ hP hD hS _ (lv_sub hl [0, 1, 3] rfl) h
  exact hL4 N a1 0 1 _ _ hP hD hS _ (lv_sub hl [2, 3, 1, 0] rfl) h
def fX13_dropsBill_L13 (N : Nat) (K43 : Int32 → Int32 → MS → Option (MS)) : Nat → Int32 → Int32 → Int32 → MS → Option (MS)
  | 0, _, _, _, _ => none
  | n + 1, v1_7, v2_7, v3_7, s0_7 =>
    if 9 ≤ v3_7 then
      K43 v1_7 v2_7 s0_7
    else
      xrd 229 ((v2_7 + v3_7) + 1) fun k9 =>
      xrd 229 (v2_7 + v3_7) fun k10 =>
      xlet (upd s0_7.1 k10 (s0_7.1 k9)) fun g11 =>
      xlet (v3_7 + (1)) fun x12 =>
      fX13_dropsBill_L13 N K43 n v1_7 v2_7 x12 ((Ms0 s0_7 g11))
def fX13_dropsBill_L4 (N : Nat) (K49 : MS → Option (MS)) : Nat → Int32 → Int32 → MS → Option (MS)
  | 0, _, _, _ => none
  | n + 1, v1_3, v2_3, s0_3 =>
    if 229 ≤ v2_3 then
      K49 s0_3
    else
      xjoin (fun (v1_5 : Int32) (v2_5 : Int32) (s0_5 : MS) =>
          xlet (v2_5 + (10)) fun x6 =>
          fX13_dropsBill_L4 N K49 n v1_5 x6 s0_5
        ) fun K43 =>
      fX13_dropsBill_L13 N K43 N v1_3 v2_3 v1_3 s0_3
def fX13_dropsBill (N : Nat) (a1 : Int32) (s0 : MS) : Option (MS) :=
  xjoin (fun (s0_1 : MS) =>
      xlet (upd s0_1.1 6 ((s0_1.1 6) - 1)) fun g2 =>
      some ((Ms0 s0_1 g2))
    ) fun K49 =>
  fX13_dropsBill_L4 N K49 N a1 209 s0
set_option maxRecDepth 100000 in
set_option maxHeartbeats 4000000 in
theorem kX13_dropsBill (l : Launch) (D : va_G) (cA : Nat → ClassId) (h0 : Nat → Nat) (sz N : Nat) (a1 : Int32) (s0 : MS) (q : MS) (h : fX13_dropsBill N a1 s0 = some q) : xM l yX13_dropsBill cX13_dropsBill 4 none ({ frames := 0, cells := 0, slots := 0, locals := 0 }) D cA (MW cA h0 s0) sz [.ref (h0 0), .int a1] (none) (MW cA h0 q) := by
  generalize erm : ({ frames := 0, cells := 0, slots := 0, locals := 0 } : Room) = rm
  refine xMet (by decide) (Nat.le_of_ble_eq_true rfl) ?_
  intro p e s m below meth c hx hb hr hlocks hml hts hown hin hK hP A eA hD hS hA hsz ls hl
  have hl : lv_has ls 4 [(0, .ref (h0 0)), (1, .int a1)] := hl
  clear eA
  rw [fX13_dropsBill] at h
  refine lv_sipush (v := 209) hx hb dX13_dropsBill_0 (by decide) ?_
  refine lv_istore_n (lv' := [(2, .int 209), (0, .ref (h0 0)), (1, .int a1)]) hx hb dX13_dropsBill_3 rfl hl (by decide) rfl (fun ls hl => ?_)
  obtain ⟨K49, eK49, h⟩ := x_join h
  have hJ_K49 : ∀ (s0_1 : MS) (H : Heap) (locs : List Loc), va_P D vwCl (MW cA h0 s0_1) H → va_D A (MW cA h0 s0_1) → va_S A s.heap H locs → ∀ ls : Array Slot, lv_has ls 4 [(0, .ref (h0 0))] → K49 s0_1 = some q → W p l e rm s m ([.ref (h0 0), .int a1] : List Value).toArray below meth c H locs 0 0 (MQ below (xQ D cA A (MW cA h0 q) (none)) ([.ref (h0 0), .int a1] : List Value).toArray s 0 0 A) (F0 m 49 ls []) := by
    clear h hP hD hS hl
    intro s0_1 H locs hP hD hS ls hl h
    rw [eK49] at h
    refine lv_aload_n hx hb dX13_dropsBill_49 rfl (lv_at hl 0 rfl) ?_
    refine va_get (D := D) (ci := 12) (v := .ref (h0 1)) (C := RX13) (T := TX13) (N := 16) hx hb hts iX13 hown hK hP 0 rfl rfl 0 (by decide) (hts _ qfl_X13_7) (fun _ h9 => h9) rfl dX13_dropsBill_50 ?_
    refine lv_bipush (v := 6) hx hb dX13_dropsBill_53 (by decide) ?_
    refine lv_dup2_11 hx hb dX13_dropsBill_55 rfl rfl ?_
    refine xIald hx hb hK hP 1 0 rfl rfl (x_lit (k := 6) (by decide)) dX13_dropsBill_56 ?_
    refine lv_iconst (v := 1) hx hb dX13_dropsBill_57 (by decide) ?_
    refine lv_isub hx hb dX13_dropsBill_58 ?_
    refine xIast (w2 := fun zz => MW cA h0 ((Ms0 s0_1 zz))) hx hb hK hP hD hS 1 0 rfl rfl (x_lit (k := 6) (by decide)) (fun _ => rfl) dX13_dropsBill_59 (fun g2 eg2 H locs hP hD hS => ?_)
    have h := x_let h eg2
    have hP : va_P D vwCl (MW cA h0 ((Ms0 s0_1 g2))) H := hP
    have hD : va_D A (MW cA h0 ((Ms0 s0_1 g2))) := hD
    have h := Option.some.inj h
    subst h
    exact xVret hx hb hr hlocks hP hK hD hS dX13_dropsBill_60
  have hL4 : ∀ (n : Nat) (v1_3 : Int32) (v2_3 : Int32) (s0_3 : MS) (H : Heap) (locs : List Loc), va_P D vwCl (MW cA h0 s0_3) H → va_D A (MW cA h0 s0_3) → va_S A s.heap H locs → ∀ ls : Array Slot, lv_has ls 4 [(0, .ref (h0 0)), (1, .int v1_3), (2, .int v2_3)] → fX13_dropsBill_L4 N K49 n v1_3 v2_3 s0_3 = some q → W p l e rm s m ([.ref (h0 0), .int a1] : List Value).toArray below meth c H locs 0 0 (MQ below (xQ D cA A (MW cA h0 q) (none)) ([.ref (h0 0), .int a1] : List Value).toArray s 0 0 A) (F0 m 4 ls []) := by
    clear h hP hD hS hl
    intro n
    induction n with
    | zero => intro v1_3 v2_3 s0_3 H locs hP hD hS ls hl h; rw [fX13_dropsBill_L4] at h; cases h
    | succ n ih =>
      intro v1_3 v2_3 s0_3 H locs hP hD hS ls hl h
      rw [fX13_dropsBill_L4] at h
      refine lv_iload_n hx hb dX13_dropsBill_4 rfl (lv_at hl 2 rfl) ?_
      refine lv_sipush (v := 229) hx hb dX13_dropsBill_5 (by decide) ?_
      refine lv_icmp_ge (tgt := 49) hx hb dX13_dropsBill_8 (by decide) (fun c4 => ?_) (fun c4 => ?_)
      · have h := x_t h c4
        exact hJ_K49 s0_3 _ _ hP hD hS _ (lv_sub hl [0] rfl) h
      · have h := x_f h c4
        refine lv_iload_n hx hb dX13_dropsBill_11 rfl (lv_at hl 1 rfl) ?_
        refine lv_istore_n (lv' := [(3, .int v1_3), (0, .ref (h0 0)), (1, .int v1_3), (2, .int v2_3)]) hx hb dX13_dropsBill_12 rfl hl (by decide) rfl (fun ls hl => ?_)
        obtain ⟨K43, eK43, h⟩ := x_join h
        have hJ_K43 : ∀ (v1_5 : Int32) (v2_5 : Int32) (s0_5 : MS) (H : Heap) (locs : List Loc), va_P D vwCl (MW cA h0 s0_5) H → va_D A (MW cA h0 s0_5) → va_S A s.heap H locs → ∀ ls : Array Slot, lv_has ls 4 [(0, .ref (h0 0)), (1, .int v1_5), (2, .int v2_5)] → K43 v1_5 v2_5 s0_5 = some q → W p l e rm s m ([.ref (h0 0), .int a1] : List Value).toArray below meth c H locs 0 0 (MQ below (xQ D cA A (MW cA h0 q) (none)) ([.ref (h0 0), .int a1] : List Value).toArray s 0 0 A) (F0 m 43 ls []) := by
          clear h hP hD hS hl
          intro v1_5 v2_5 s0_5 H locs hP hD hS ls hl h
          rw [eK43] at h
          obtain ⟨x6, ex6⟩ : ∃ y : Int32, y = v2_5 + (10) := ⟨_, rfl⟩
          have h := x_let h ex6
          refine lv_iinc (v := x6) (lv' := [(2, .int x6), (0, .ref (h0 0)), (1, .int v1_5)]) hx hb dX13_dropsBill_43 hl (k := 2) rfl (by rw [ex6]; rfl) (by decide) rfl (fun ls hl => ?_)
          refine lv_goto (tgt := 4) hx hb dX13_dropsBill_46 (by decide) ?_
          exact ih v1_5 x6 s0_5 _ _ hP hD hS _ (lv_sub hl [1, 2, 0] rfl) h
        have hL13 : ∀ (n : Nat) (v1_7 : Int32) (v2_7 : Int32) (v3_7 : Int32) (s0_7 : MS) (H : Heap) (locs : List Loc), va_P D vwCl (MW cA h0 s0_7) H → va_D A (MW cA h0 s0_7) → va_S A s.heap H locs → ∀ ls : Array Slot, lv_has ls 4 [(0, .ref (h0 0)), (1, .int v1_7), (2, .int v2_7), (3, .int v3_7)] → fX13_dropsBill_L13 N K43 n v1_7 v2_7 v3_7 s0_7 = some q → W p l e rm s m ([.ref (h0 0), .int a1] : List Value).toArray below meth c H locs 0 0 (MQ below (xQ D cA A (MW cA h0 q) (none)) ([.ref (h0 0), .int a1] : List Value).toArray s 0 0 A) (F0 m 13 ls []) := by
          clear h hP hD hS hl
          intro n
          induction n with
          | zero => intro v1_7 v2_7 v3_7 s0_7 H locs hP hD hS ls hl h; rw [fX13_dropsBill_L13] at h; cases h
          | succ n ih =>
            intro v1_7 v2_7 v3_7 s0_7 H locs hP hD hS ls hl h
            rw [fX13_dropsBill_L13] at h
            refine lv_iload_n hx hb dX13_dropsBill_13 rfl (lv_at hl 3 rfl) ?_
            refine lv_bipush (v := 9) hx hb dX13_dropsBill_14 (by decide) ?_
            refine lv_icmp_ge (tgt := 43) hx hb dX13_dropsBill_16 (by decide) (fun c8 => ?_) (fun c8 => ?_)
            · have h := x_t h c8
              exact hJ_K43 v1_7 v2_7 s0_7 _ _ hP hD hS _ (lv_sub hl [0, 1, 2] rfl) h
            · have h := x_f h c8
              refine lv_aload_n hx hb dX13_dropsBill_19 rfl (lv_at hl 0 rfl) ?_
              refine va_get (D := D) (ci := 12) (v := .ref (h0 1)) (C := RX13) (T := TX13) (N := 16) hx hb hts iX13 hown hK hP 0 rfl rfl 0 (by decide) (hts _ qfl_X13_7) (fun _ h9 => h9) rfl dX13_dropsBill_20 ?_
              refine lv_iload_n hx hb dX13_dropsBill_23 rfl (lv_at hl 2 rfl) ?_
              refine lv_iload_n hx hb dX13_dropsBill_24 rfl (lv_at hl 3 rfl) ?_
              refine lv_iadd hx hb dX13_dropsBill_25 ?_
              refine lv_aload_n hx hb dX13_dropsBill_26 rfl (lv_at hl 0 rfl) ?_
              refine va_get (D := D) (ci := 12) (v := .ref (h0 1)) (C := RX13) (T := TX13) (N := 16) hx hb hts iX13 hown hK hP 0 rfl rfl 0 (by decide) (hts _ qfl_X13_7) (fun _ h9 => h9) rfl dX13_dropsBill_27 ?_
              refine lv_iload_n hx hb dX13_dropsBill_30 rfl (lv_at hl 2 rfl) ?_
              refine lv_iload_n hx hb dX13_dropsBill_31 rfl (lv_at hl 3 rfl) ?_
              refine lv_iadd hx hb dX13_dropsBill_32 ?_
              refine lv_iconst (v := 1) hx hb dX13_dropsBill_33 (by decide) ?_
              refine lv_iadd hx hb dX13_dropsBill_34 ?_
              obtain ⟨k9, hk9, h⟩ := x_rd h
              refine xIald hx hb hK hP 1 0 rfl rfl hk9 dX13_dropsBill_35 ?_
              obtain ⟨k10, hk10, h⟩ := x_rd h
              refine xIast (w2 := fun zz => MW cA h0 ((Ms0 s0_7 zz))) hx hb hK hP hD hS 1 0 rfl rfl hk10 (fun _ => rfl) dX13_dropsBill_36 (fun g11 eg11 H locs hP hD hS => ?_)
              have h := x_let h eg11
              have hP : va_P D vwCl (MW cA h0 ((Ms0 s0_7 g11))) H := hP
              have hD : va_D A (MW cA h0 ((Ms0 s0_7 g11))) := hD
              obtain ⟨x12, ex12⟩ : ∃ y : Int32, y = v3_7 + (1) := ⟨_, rfl⟩
              have h := x_let h ex12
              refine lv_iinc (v := x12) (lv' := [(3, .int x12), (0, .ref (h0 0)), (1, .int v1_7), (2, .int v2_7)]) hx hb dX13_dropsBill_37 hl (k := 3) rfl (by rw [ex12]; rfl) (by decide) rfl (fun ls hl => ?_)
              refine lv_goto (tgt := 13) hx hb dX13_dropsBill_40 (by decide) ?_
              exact ih v1_7 v2_7 x12 ((Ms0 s0_7 g11)) _ _ hP hD hS _ (lv_sub hl [1, 2, 3, 0] rfl) h
        exact hL13 N v1_3 v2_3 v1_3 s0_3 _ _ hP hD hS _ (lv_sub hl [1, 2, 3, 0] rfl) h
  exact hL4 N a1 209 s0 _ _ hP hD hS _ (lv_sub hl [1, 2, 0] rfl) h
def fX13_paysInOrder_L4 (N : Nat) (K71 : MS → Option (MS)) : Nat → Int32 → Int32 → MS → Option (MS)
  | 0, _, _, _ => none
  | n + 1, v2_2, v3_2, s0_2 =>
    if (s0_2.1 6) ≤ v3_2 then
      K71 s0_2
    else
      xrd 229 (219 + v3_2) fun k4 =>
      xjoin (fun (t0_5 : Int32) (v2_5 : Int32) (v3_5 : Int32) (s0_5 : MS) =>
          xrd 229 (219 + v3_5) fun k6 =>
          xrd 229 (219 + v3_5) fun k7 =>
          xlet (upd s0_5.1 k7 ((s0_5.1 k6) - t0_5)) fun g8 =>
          xlet (v2_5 - t0_5) fun x9 =>
          xlet (v3_5 + (1)) fun x10 =>
          fX13_paysInOrder_L4 N K71 n x9 x10 ((Ms0 s0_5 g8))
        ) fun J43 =>
      if (s0_2.1 k4) ≤ v2_2 then
        xrd 229 (219 + v3_2) fun k12 =>
        J43 (s0_2.1 k12) v2_2 v3_2 s0_2
      else
        J43 v2_2 v2_2 v3_2 s0_2
def fX13_paysInOrder (N : Nat) (a1 : Int32) (s0 : MS) : Option (MS) :=
  xjoin (fun (s0_1 : MS) =>
      some s0_1
    ) fun K71 =>
  fX13_paysInOrder_L4 N K71 N a1 0 s0
set_option maxRecDepth 100000 in
set_option maxHeartbeats 4000000 in
theorem kX13_paysInOrder (l : Launch) (D : va_G) (cA : Nat → ClassId) (h0 : Nat → Nat) (sz N : Nat) (a1 : Int32) (s0 : MS) (q : MS) (h : fX13_paysInOrder N a1 s0 = some q) : xM l yX13_paysInOrder cX13_paysInOrder 5 none ({ frames := 0, cells := 0, slots := 0, locals := 0 }) D cA (MW cA h0 s0) sz [.ref (h0 0), .int a1] (none) (MW cA h0 q) := by
  generalize erm : ({ frames := 0, cells := 0, slots := 0, locals := 0 } : Room) = rm
  refine xMet (by decide) (Nat.le_of_ble_eq_true rfl) ?_
  intro p e s m below meth c hx hb hr hlocks hml hts hown hin hK hP A eA hD hS hA hsz ls hl
  have hl : lv_has ls 5 [(0, .ref (h0 0)), (1, .int a1)] := hl
  clear eA
  rw [fX13_paysInOrder] at h
  refine lv_iload_n hx hb dX13_paysInOrder_0 rfl (lv_at hl 1 rfl) ?_
  refine lv_istore_n (lv' := [(2, .int a1), (0, .ref (h0 0)), (1, .int a1)]) hx hb dX13_paysInOrder_1 rfl hl (by decide) rfl (fun ls hl => ?_)
  refine lv_iconst (v := 0) hx hb dX13_paysInOrder_2 (by decide) ?_
  refine lv_istore_n (lv' := [(3, .int 0), (2, .int a1), (0, .ref (h0 0)), (1, .int a1)]) hx hb dX13_paysInOrder_3 rfl hl (by decide) rfl (fun ls hl => ?_)
  obtain ⟨K71, eK71, h⟩ := x_join h
  have hJ_K71 : ∀ (s0_1 : MS) (H : Heap) (locs : List Loc), va_P D vwCl (MW cA h0 s0_1) H → va_D A (MW cA h0 s0_1) → va_S A s.heap H locs → ∀ ls : Array Slot, lv_has ls 5 [] → K71 s0_1 = some q → W p l e rm s m ([.ref (h0 0), .int a1] : List Value).toArray below meth c H locs 0 0 (MQ below (xQ D cA A (MW cA h0 q) (none)) ([.ref (h0 0), .int a1] : List Value).toArray s 0 0 A) (F0 m 71 ls []) := by
    clear h hP hD hS hl
    intro s0_1 H locs hP hD hS ls hl h
    rw [eK71] at h
    have h := Option.some.inj h
    subst h
    exact xVret hx hb hr hlocks hP hK hD hS dX13_paysInOrder_71
  have hL4 : ∀ (n : Nat) (v2_2 : Int32) (v3_2 : Int32) (s0_2 : MS) (H : Heap) (locs : List Loc), va_P D vwCl (MW cA h0 s0_2) H → va_D A (MW cA h0 s0_2) → va_S A s.heap H locs → ∀ ls : Array Slot, lv_has ls 5 [(0, .ref (h0 0)), (2, .int v2_2), (3, .int v3_2)] → fX13_paysInOrder_L4 N K71 n v2_2 v3_2 s0_2 = some q → W p l e rm s m ([.ref (h0 0), .int a1] : List Value).toArray below meth c H locs 0 0 (MQ below (xQ D cA A (MW cA h0 q) (none)) ([.ref (h0 0), .int a1] : List Value).toArray s 0 0 A) (F0 m 4 ls []) := by
    clear h hP hD hS hl
    intro n
    induction n with
    | zero => intro v2_2 v3_2 s0_2 H locs hP hD hS ls hl h; rw [fX13_paysInOrder_L4] at h; cases h
    | succ n ih =>
      intro v2_2 v3_2 s0_2 H locs hP hD hS ls hl h
      rw [fX13_paysInOrder_L4] at h
      refine lv_iload_n hx hb dX13_paysInOrder_4 rfl (lv_at hl 2 rfl) ?_
      refine lv_aload_n hx hb dX13_paysInOrder_5 rfl (lv_at hl 0 rfl) ?_
      refine va_get (D := D) (ci := 12) (v := .ref (h0 1)) (C := RX13) (T := TX13) (N := 16) hx hb hts iX13 hown hK hP 0 rfl rfl 0 (by decide) (hts _ qfl_X13_7) (fun _ h9 => h9) rfl dX13_paysInOrder_6 ?_
      refine lv_bipush (v := 6) hx hb dX13_paysInOrder_9 (by decide) ?_
      refine xIald hx hb hK hP 1 0 rfl rfl (x_lit (k := 6) (by decide)) dX13_paysInOrder_11 ?_
      refine lv_icmp_ge (tgt := 71) hx hb dX13_paysInOrder_12 (by decide) (fun c3 => ?_) (fun c3 => ?_)
      · have h := x_t h c3
        exact hJ_K71 s0_2 _ _ hP hD hS _ (lv_sub hl [] rfl) h
      · have h := x_f h c3
        refine lv_iload_n hx hb dX13_paysInOrder_15 rfl (lv_at hl 1 rfl) ?_
        refine lv_aload_n hx hb dX13_paysInOrder_16 rfl (lv_at hl 0 rfl) ?_
        refine va_get (D := D) (ci := 12) (v := .ref (h0 1)) (C := RX13) (T := TX13) (N := 16) hx hb hts iX13 hown hK hP 0 rfl rfl 0 (by decide) (hts _ qfl_X13_7) (fun _ h9 => h9) rfl dX13_paysInOrder_17 ?_
        refine lv_sipush (v := 219) hx hb dX13_paysInOrder_20 (by decide) ?_
        refine lv_iload_n hx hb dX13_paysInOrder_23 rfl (lv_at hl 2 rfl) ?_
        refine lv_iadd hx hb dX13_paysInOrder_24 ?_
        obtain ⟨k4, hk4, h⟩ := x_rd h
        refine xIald hx hb hK hP 1 0 rfl rfl hk4 dX13_paysInOrder_25 ?_
        obtain ⟨J43, eJ43, h⟩ := x_join h
        have hJ_J43 : ∀ (t0_5 : Int32) (v2_5 : Int32) (v3_5 : Int32) (s0_5 : MS) (H : Heap) (locs : List Loc), va_P D vwCl (MW cA h0 s0_5) H → va_D A (MW cA h0 s0_5) → va_S A s.heap H locs → ∀ ls : Array Slot, lv_has ls 5 [(0, .ref (h0 0)), (2, .int v2_5), (3, .int v3_5)] → J43 t0_5 v2_5 v3_5 s0_5 = some q → W p l e rm s m ([.ref (h0 0), .int a1] : List Value).toArray below meth c H locs 0 0 (MQ below (xQ D cA A (MW cA h0 q) (none)) ([.ref (h0 0), .int a1] : List Value).toArray s 0 0 A) (F0 m 43 ls [.int t0_5]) := by
          clear h hP hD hS hl
          intro t0_5 v2_5 v3_5 s0_5 H locs hP hD hS ls hl h
          rw [eJ43] at h
          refine lv_istore (lv' := [(4, .int t0_5), (0, .ref (h0 0)), (2, .int v2_5), (3, .int v3_5)]) hx hb dX13_paysInOrder_43 hl (by decide) rfl (fun ls hl => ?_)
          refine lv_aload_n hx hb dX13_paysInOrder_45 rfl (lv_at hl 1 rfl) ?_
          refine va_get (D := D) (ci := 12) (v := .ref (h0 1)) (C := RX13) (T := TX13) (N := 16) hx hb hts iX13 hown hK hP 0 rfl rfl 0 (by decide) (hts _ qfl_X13_7) (fun _ h9 => h9) rfl dX13_paysInOrder_46 ?_
          refine lv_sipush (v := 219) hx hb dX13_paysInOrder_49 (by decide) ?_
          refine lv_iload_n hx hb dX13_paysInOrder_52 rfl (lv_at hl 3 rfl) ?_
          refine lv_iadd hx hb dX13_paysInOrder_53 ?_
          refine lv_dup2_11 hx hb dX13_paysInOrder_54 rfl rfl ?_
          obtain ⟨k6, hk6, h⟩ := x_rd h
          refine xIald hx hb hK hP 1 0 rfl rfl hk6 dX13_paysInOrder_55 ?_
          refine lv_iload hx hb dX13_paysInOrder_56 (lv_at hl 0 rfl) ?_
          refine lv_isub hx hb dX13_paysInOrder_58 ?_
          obtain ⟨k7, hk7, h⟩ := x_rd h
          refine xIast (w2 := fun zz => MW cA h0 ((Ms0 s0_5 zz))) hx hb hK hP hD hS 1 0 rfl rfl hk7 (fun _ => rfl) dX13_paysInOrder_59 (fun g8 eg8 H locs hP hD hS => ?_)
          have h := x_let h eg8
          have hP : va_P D vwCl (MW cA h0 ((Ms0 s0_5 g8))) H := hP
          have hD : va_D A (MW cA h0 ((Ms0 s0_5 g8))) := hD
          refine lv_iload_n hx hb dX13_paysInOrder_60 rfl (lv_at hl 2 rfl) ?_
          refine lv_iload hx hb dX13_paysInOrder_61 (lv_at hl 0 rfl) ?_
          refine lv_isub hx hb dX13_paysInOrder_63 ?_
          refine lv_topi (fun x9 ex9 => ?_)
          have h := x_let h ex9
          refine lv_istore_n (lv' := [(2, .int x9), (4, .int t0_5), (0, .ref (h0 0)), (3, .int v3_5)]) hx hb dX13_paysInOrder_64 rfl hl (by decide) rfl (fun ls hl => ?_)
          obtain ⟨x10, ex10⟩ : ∃ y : Int32, y = v3_5 + (1) := ⟨_, rfl⟩
          have h := x_let h ex10
          refine lv_iinc (v := x10) (lv' := [(3, .int x10), (2, .int x9), (4, .int t0_5), (0, .ref (h0 0))]) hx hb dX13_paysInOrder_65 hl (k := 3) rfl (by rw [ex10]; rfl) (by decide) rfl (fun ls hl => ?_)
          refine lv_goto (tgt := 4) hx hb dX13_paysInOrder_68 (by decide) ?_
          exact ih x9 x10 ((Ms0 s0_5 g8)) _ _ hP hD hS _ (lv_sub hl [3, 1, 0] rfl) h
        refine lv_icmp_ge (tgt := 33) hx hb dX13_paysInOrder_26 (by decide) (fun c11 => ?_) (fun c11 => ?_)
        · have h := x_t h c11
          refine lv_aload_n hx hb dX13_paysInOrder_33 rfl (lv_at hl 0 rfl) ?_
          refine va_get (D := D) (ci := 12) (v := .ref (h0 1)) (C := RX13) (T := TX13) (N := 16) hx hb hts iX13 hown hK hP 0 rfl rfl 0 (by decide) (hts _ qfl_X13_7) (fun _ h9 => h9) rfl dX13_paysInOrder_34 ?_
          refine lv_sipush (v := 219) hx hb dX13_paysInOrder_37 (by decide) ?_
          refine lv_iload_n hx hb dX13_paysInOrder_40 rfl (lv_at hl 2 rfl) ?_
          refine lv_iadd hx hb dX13_paysInOrder_41 ?_
          obtain ⟨k12, hk12, h⟩ := x_rd h
          refine xIald hx hb hK hP 1 0 rfl rfl hk12 dX13_paysInOrder_42 ?_
          exact hJ_J43 (s0_2.1 k12) v2_2 v3_2 s0_2 _ _ hP hD hS _ (lv_sub hl [0, 1, 2] rfl) h
        · have h := x_f h c11
          refine lv_iload_n hx hb dX13_paysInOrder_29 rfl (lv_at hl 1 rfl) ?_
          refine lv_goto (tgt := 43) hx hb dX13_paysInOrder_30 (by decide) ?_
          exact hJ_J43 v2_2 v2_2 v3_2 s0_2 _ _ hP hD hS _ (lv_sub hl [0, 1, 2] rfl) h
  exact hL4 N a1 0 s0 _ _ hP hD hS _ (lv_sub hl [2, 1, 0] rfl) h
def fX13_pays_L52 (N : Nat) (K120 : Int32 → Int32 → MS → Option (Int32 × MS)) : Nat → Int32 → Int32 → Int32 → Int32 → MS → Option (Int32 × MS)
  | 0, _, _, _, _, _ => none
  | n + 1, v1_10, v2_10, v3_10, v4_10, s0_10 =>
    if v4_10 < 0 then
      K120 v1_10 v3_10 s0_10
    else
      xjoin (fun (t0_12 : Int32) (v1_12 : Int32) (v2_12 : Int32) (v3_12 : Int32) (v4_12 : Int32) (s0_12 : MS) =>
          xjoin (fun (v1_13 : Int32) (v2_13 : Int32) (v3_13 : Int32) (v4_13 : Int32) (s0_13 : MS) =>
              xlet (v4_13 + (-1)) fun x14 =>
              fX13_pays_L52 N K120 n v1_13 v2_13 v3_13 x14 s0_13
            ) fun J114 =>
          if t0_12 = 0 then
            J114 v1_12 v2_12 v3_12 v4_12 s0_12
          else
            xjoin (fun (v1_16 : Int32) (v2_16 : Int32) (v3_16 : Int32) (v4_16 : Int32) (s0_16 : MS) =>
                xcall (fX13_dropsBill N v4_16 s0_16) fun q17 =>
                xlet (v3_16 + (1)) fun x18 =>
                J114 v1_16 v2_16 x18 v4_16 q17
              ) fun J105 =>
            if ((v2_12 >>> (v4_12 &&& 31)) &&& 1) = 1 then
              J105 v1_12 v2_12 v3_12 v4_12 s0_12
            else
              xrd 229 (219 + v4_12) fun k20 =>
              if (s0_12.1 k20) = 0 then
                J105 v1_12 v2_12 v3_12 v4_12 s0_12
              else
                J114 v1_12 v2_12 v3_12 v4_12 s0_12
        ) fun J74 =>
      if (s0_10.1 6) ≤ v4_10 then
        J74 0 v1_10 v2_10 v3_10 v4_10 s0_10
      else
        J74 1 v1_10 v2_10 v3_10 v4_10 s0_10
def fX13_pays (N : Nat) (a1 : Int32) (s0 : MS) : Option (Int32 × MS) :=
  xcall (fX13_in N a1 1 999) fun q1 =>
  if q1 = 0 then
    xcall (fX13_fails N 1 s0) fun q26 =>
    some (q26.1, q26.2)
  else
    xcall (fX13_owed N s0) fun q3 =>
    if a1 ≤ q3 then
      xcall (fX13_chosen N a1 s0) fun q5 =>
      xjoin (fun (v1_6 : Int32) (v2_6 : Int32) (s0_6 : MS) =>
          xjoin (fun (v1_7 : Int32) (v3_7 : Int32) (s0_7 : MS) =>
              xcall (fX13_enters N 0 2 v1_7 0 s0_7) fun q8 =>
              xcall (fX13_done N v3_7 q8.2) fun q9 =>
              some (q9.1, q9.2)
            ) fun K120 =>
          fX13_pays_L52 N K120 N v1_6 v2_6 0 9 s0_6
        ) fun J46 =>
      if q5 = 0 then
        xcall (fX13_paysInOrder N a1 s0) fun q24 =>
        J46 a1 q5 q24
      else
        J46 a1 q5 s0
    else
      xcall (fX13_fails N 2 s0) fun q25 =>
      some (q25.1, q25.2)
set_option maxRecDepth 100000 in
set_option maxHeartbeats 4000000 in
theorem kX13_pays (l : Launch) (D : va_G) (cA : Nat → ClassId) (h0 : Nat → Nat) (sz N : Nat) (a1 : Int32) (s0 : MS) (q : Int32 × MS) (h : fX13_pays N a1 s0 = some q) : xM l yX13_pays cX13_pays 6 (some .int) ({ frames := 3, cells := 0, slots := 0, locals := 68 }) D cA (MW cA h0 s0) sz [.ref (h0 0), .int a1] (some (.int q.1)) (MW cA h0 q.2) := by
  generalize erm : ({ frames := 3, cells := 0, slots := 0, locals := 68 } : Room) = rm
  refine xMet (by decide) (Nat.le_of_ble_eq_true rfl) ?_
  intro p e s m below meth c hx hb hr hlocks hml hts hown hin hK hP A eA hD hS hA hsz ls hl
  have hl : lv_has ls 6 [(0, .ref (h0 0)), (1, .int a1)] := hl
  clear eA
  rw [fX13_pays] at h
  refine lv_iload_n hx hb dX13_pays_0 rfl (lv_at hl 1 rfl) ?_
  refine lv_iconst (v := 1) hx hb dX13_pays_1 (by decide) ?_
  refine lv_sipush (v := 999) hx hb dX13_pays_2 (by decide) ?_
  obtain ⟨q1, c1, h⟩ := x_call h
  refine xCall (w2 := MW cA h0 s0) (xRunS (n := 3) (As := [.int a1, .int 1, .int 999]) (rest := []) ⟨hx, hb, hml, hown, hts⟩ (kX13_in l D cA  _ N a1 1 999 q1 c1) qco_X13_in qml_X13_49 qst_X13_in qini_X13 (by decide +kernel) (by rw [← erm]; rfl) hK hP hD [] rfl rfl rfl rfl hl.1 rfl (lv_room (Nat.le_of_ble_eq_true rfl)) dX13_pays_5 ⟨Nat.zero_le _, Nat.zero_le _⟩) hP hD hS hA [] [0, 1, 2, 3, 4, 5, 6, 7] [0, 1, 2, 3, 4, 5, 6, 7] rfl (wr := [(h0 0, .inr (12, [.ref (h0 1), .ref (h0 2), .ref (h0 3), .int (s0.2.2.2.1), .ref (h0 4), .int (s0.2.2.2.2.2.1), .ref (h0 5), .int (s0.2.2.2.2.2.2.2.1), .int (s0.2.2.2.2.2.2.2.2.1), .int (s0.2.2.2.2.2.2.2.2.2.1), .ref (h0 6), .int (s0.2.2.2.2.2.2.2.2.2.2.2.1), .int (s0.2.2.2.2.2.2.2.2.2.2.2.2.1), .int (s0.2.2.2.2.2.2.2.2.2.2.2.2.2.1), .int (s0.2.2.2.2.2.2.2.2.2.2.2.2.2.2.1), .ref (h0 7)])), (h0 1, .inl (cA 0, 229, .inl (s0.1))), (h0 2, .inl (cA 0, 229, .inl (s0.2.1))), (h0 3, .inl (cA 0, 1832, .inl (s0.2.2.1))), (h0 4, .inl (cA 0, 229, .inl (s0.2.2.2.2.1))), (h0 5, .inl (cA 1, 60, .inl (s0.2.2.2.2.2.2.1))), (h0 6, .inl (cA 1, 60, .inl (s0.2.2.2.2.2.2.2.2.2.2.1))), (h0 7, .inl (cA 0, 240, .inl (s0.2.2.2.2.2.2.2.2.2.2.2.2.2.2.2)))]) rfl rfl rfl rfl rfl (fun H locs hP hD hS => ?_)
  refine lv_if_ne (tgt := 17) hx hb dX13_pays_8 (by decide) (fun c2 => ?_) (fun c2 => ?_)
  · have h := x_f h c2
    refine lv_aload_n hx hb dX13_pays_17 rfl (lv_at hl 0 rfl) ?_
    obtain ⟨q3, c3, h⟩ := x_call h
    refine xCall (w2 := MW cA h0 s0) (xRunV (n := 0) (As := []) (rest := []) ⟨hx, hb, hml, hown, hts⟩ (kX13_owed l D cA h0 _ N s0 q3 c3) qco_X13_owed qml_X13_146 qin_X13_owed qse_X13_owed qini_X13 (by decide +kernel) (by rw [← erm]; rfl) hK hP hD [0, 1, 2, 3, 4, 5, 6, 7] rfl rfl (q0 := 0) rfl rfl rfl rfl rfl hl.1 rfl (lv_room (Nat.le_of_ble_eq_true rfl)) dX13_pays_18 ⟨Nat.zero_le _, Nat.zero_le _⟩) hP hD hS hA [0, 1, 2, 3, 4, 5, 6, 7] [] [0, 1, 2, 3, 4, 5, 6, 7] rfl (wr := []) rfl rfl rfl rfl rfl (fun H locs hP hD hS => ?_)
    refine lv_iload_n hx hb dX13_pays_21 rfl (lv_at hl 1 rfl) ?_
    refine lv_icmp_ge (tgt := 31) hx hb dX13_pays_22 (by decide) (fun c4 => ?_) (fun c4 => ?_)
    · have h := x_t h c4
      refine lv_aload_n hx hb dX13_pays_31 rfl (lv_at hl 0 rfl) ?_
      refine lv_iload_n hx hb dX13_pays_32 rfl (lv_at hl 1 rfl) ?_
      obtain ⟨q5, c5, h⟩ := x_call h
      refine xCall (w2 := MW cA h0 s0) (xRunV (n := 1) (As := [.int a1]) (rest := []) ⟨hx, hb, hml, hown, hts⟩ (kX13_chosen l D cA h0 _ N a1 s0 q5 c5) qco_X13_chosen qml_X13_149 qin_X13_chosen qse_X13_chosen qini_X13 (by decide +kernel) (by rw [← erm]; rfl) hK hP hD [0, 1, 2, 3, 4, 5, 6, 7] rfl rfl (q0 := 0) rfl rfl rfl rfl rfl hl.1 rfl (lv_room (Nat.le_of_ble_eq_true rfl)) dX13_pays_33 ⟨Nat.zero_le _, Nat.zero_le _⟩) hP hD hS hA [0, 1, 2, 3, 4, 5, 6, 7] [] [0, 1, 2, 3, 4, 5, 6, 7] rfl (wr := []) rfl rfl rfl rfl rfl (fun H locs hP hD hS => ?_)
      refine lv_istore_n (lv' := [(2, .int q5), (0, .ref (h0 0)), (1, .int a1)]) hx hb dX13_pays_36 rfl hl (by decide) rfl (fun ls hl => ?_)
      refine lv_iload_n hx hb dX13_pays_37 rfl (lv_at hl 0 rfl) ?_
      obtain ⟨J46, eJ46, h⟩ := x_join h
      have hJ_J46 : ∀ (v1_6 : Int32) (v2_6 : Int32) (s0_6 : MS) (H : Heap) (locs : List Loc), va_P D vwCl (MW cA h0 s0_6) H → va_D A (MW cA h0 s0_6) → va_S A s.heap H locs → ∀ ls : Array Slot, lv_has ls 6 [(0, .ref (h0 0)), (1, .int v1_6), (2, .int v2_6)] → J46 v1_6 v2_6 s0_6 = some q → W p l e rm s m ([.ref (h0 0), .int a1] : List Value).toArray below meth c H locs 0 0 (MQ below (xQ D cA A (MW cA h0 q.2) (some (.int q.1))) ([.ref (h0 0), .int a1] : List Value).toArray s 0 0 A) (F0 m 46 ls []) := by
        clear h hP hD hS hl
        intro v1_6 v2_6 s0_6 H locs hP hD hS ls hl h
        rw [eJ46] at h
        refine lv_iconst (v := 0) hx hb dX13_pays_46 (by decide) ?_
        refine lv_istore_n (lv' := [(3, .int 0), (0, .ref (h0 0)), (1, .int v1_6), (2, .int v2_6)]) hx hb dX13_pays_47 rfl hl (by decide) rfl (fun ls hl => ?_)
        refine lv_bipush (v := 9) hx hb dX13_pays_48 (by decide) ?_
        refine lv_istore (lv' := [(4, .int 9), (3, .int 0), (0, .ref (h0 0)), (1, .int v1_6), (2, .int v2_6)]) hx hb dX13_pays_50 hl (by decide) rfl (fun ls hl => ?_)
        obtain ⟨K120, eK120, h⟩ := x_join h
        have hJ_K120 : ∀ (v1_7 : Int32) (v3_7 : Int32) (s0_7 : MS) (H : Heap) (locs : List Loc), va_P D vwCl (MW cA h0 s0_7) H → va_D A (MW cA h0 s0_7) → va_S A s.heap H locs → ∀ ls : Array Slot, lv_has ls 6 [(0, .ref (h0 0)), (1, .int v1_7), (3, .int v3_7)] → K120 v1_7 v3_7 s0_7 = some q → W p l e rm s m ([.ref (h0 0), .int a1] : List Value).toArray below meth c H locs 0 0 (MQ below (xQ D cA A (MW cA h0 q.2) (some (.int q.1))) ([.ref (h0 0), .int a1] : List Value).toArray s 0 0 A) (F0 m 120 ls []) := by
          clear h hP hD hS hl
          intro v1_7 v3_7 s0_7 H locs hP hD hS ls hl h
          rw [eK120] at h
          refine lv_aload_n hx hb dX13_pays_120 rfl (lv_at hl 0 rfl) ?_
          refine lv_iconst (v := 0) hx hb dX13_pays_121 (by decide) ?_
          refine lv_iconst (v := 2) hx hb dX13_pays_122 (by decide) ?_
          refine lv_iload_n hx hb dX13_pays_123 rfl (lv_at hl 1 rfl) ?_
          refine lv_iconst (v := 0) hx hb dX13_pays_124 (by decide) ?_
          obtain ⟨q8, c8, h⟩ := x_call h
          refine xCall (w2 := MW cA h0 q8.2) (xRunV (n := 4) (As := [.int 0, .int 2, .int v1_7, .int 0]) (rest := []) ⟨hx, hb, hml, hown, hts⟩ (kX13_enters l D cA h0 _ N 0 2 v1_7 0 s0_7 q8 c8) qco_X13_enters qml_X13_84 qin_X13_enters qse_X13_enters qini_X13 (by decide +kernel) (by rw [← erm]; rfl) hK hP hD [0, 1, 2, 3, 4, 5, 6, 7] rfl rfl (q0 := 0) rfl rfl rfl rfl rfl hl.1 rfl (lv_room (Nat.le_of_ble_eq_true rfl)) dX13_pays_125 ⟨Nat.zero_le _, Nat.zero_le _⟩) hP hD hS hA [0, 1, 2, 3, 4, 5, 6, 7] [] [0, 1, 2, 3, 4, 5, 6, 7] rfl (wr := []) rfl rfl rfl rfl rfl (fun H locs hP hD hS => ?_)
          refine lv_istore (lv' := [(4, .int q8.1), (0, .ref (h0 0)), (1, .int v1_7), (3, .int v3_7)]) hx hb dX13_pays_128 hl (by decide) rfl (fun ls hl => ?_)
          refine lv_aload_n hx hb dX13_pays_130 rfl (lv_at hl 1 rfl) ?_
          refine lv_iload_n hx hb dX13_pays_131 rfl (lv_at hl 3 rfl) ?_
          obtain ⟨q9, c9, h⟩ := x_call h
          refine xCall (w2 := MW cA h0 q9.2) (xRunV (n := 1) (As := [.int v3_7]) (rest := []) ⟨hx, hb, hml, hown, hts⟩ (kX13_done l D cA h0 _ N v3_7 q8.2 q9 c9) qco_X13_done qml_X13_60 qin_X13_done qse_X13_done qini_X13 (by decide +kernel) (by rw [← erm]; rfl) hK hP hD [0, 1, 2, 3, 4, 5, 6, 7] rfl rfl (q0 := 0) rfl rfl rfl rfl rfl hl.1 rfl (lv_room (Nat.le_of_ble_eq_true rfl)) dX13_pays_132 ⟨Nat.zero_le _, Nat.zero_le _⟩) hP hD hS hA [0, 1, 2, 3, 4, 5, 6, 7] [] [0, 1, 2, 3, 4, 5, 6, 7] rfl (wr := []) rfl rfl rfl rfl rfl (fun H locs hP hD hS => ?_)
          have h := Option.some.inj h
          subst h
          exact xIret hx hb hr hlocks hP hK hD hS dX13_pays_135
        have hL52 : ∀ (n : Nat) (v1_10 : Int32) (v2_10 : Int32) (v3_10 : Int32) (v4_10 : Int32) (s0_10 : MS) (H : Heap) (locs : List Loc), va_P D vwCl (MW cA h0 s0_10) H → va_D A (MW cA h0 s0_10) → va_S A s.heap H locs → ∀ ls : Array Slot, lv_has ls 6 [(0, .ref (h0 0)), (1, .int v1_10), (2, .int v2_10), (3, .int v3_10), (4, .int v4_10)] → fX13_pays_L52 N K120 n v1_10 v2_10 v3_10 v4_10 s0_10 = some q → W p l e rm s m ([.ref (h0 0), .int a1] : List Value).toArray below meth c H locs 0 0 (MQ below (xQ D cA A (MW cA h0 q.2) (some (.int q.1))) ([.ref (h0 0), .int a1] : List Value).toArray s 0 0 A) (F0 m 52 ls []) := by
          clear h hP hD hS hl
          intro n
          induction n with
          | zero => intro v1_10 v2_10 v3_10 v4_10 s0_10 H locs hP hD hS ls hl h; rw [fX13_pays_L52] at h; cases h
          | succ n ih =>
            intro v1_10 v2_10 v3_10 v4_10 s0_10 H locs hP hD hS ls hl h
            rw [fX13_pays_L52] at h
            refine lv_iload hx hb dX13_pays_52 (lv_at hl 4 rfl) ?_
            refine lv_if_lt (tgt := 120) hx hb dX13_pays_54 (by decide) (fun c11 => ?_) (fun c11 => ?_)
            · have h := x_t h c11
              exact hJ_K120 v1_10 v3_10 s0_10 _ _ hP hD hS _ (lv_sub hl [0, 1, 3] rfl) h
            · have h := x_f h c11
              refine lv_iload hx hb dX13_pays_57 (lv_at hl 4 rfl) ?_
              refine lv_aload_n hx hb dX13_pays_59 rfl (lv_at hl 0 rfl) ?_
              refine va_get (D := D) (ci := 12) (v := .ref (h0 1)) (C := RX13) (T := TX13) (N := 16) hx hb hts iX13 hown hK hP 0 rfl rfl 0 (by decide) (hts _ qfl_X13_7) (fun _ h9 => h9) rfl dX13_pays_60 ?_
              refine lv_bipush (v := 6) hx hb dX13_pays_63 (by decide) ?_
              refine xIald hx hb hK hP 1 0 rfl rfl (x_lit (k := 6) (by decide)) dX13_pays_65 ?_
              obtain ⟨J74, eJ74, h⟩ := x_join h
              have hJ_J74 : ∀ (t0_12 : Int32) (v1_12 : Int32) (v2_12 : Int32) (v3_12 : Int32) (v4_12 : Int32) (s0_12 : MS) (H : Heap) (locs : List Loc), va_P D vwCl (MW cA h0 s0_12) H → va_D A (MW cA h0 s0_12) → va_S A s.heap H locs → ∀ ls : Array Slot, lv_has ls 6 [(0, .ref (h0 0)), (1, .int v1_12), (2, .int v2_12), (3, .int v3_12), (4, .int v4_12)] → J74 t0_12 v1_12 v2_12 v3_12 v4_12 s0_12 = some q → W p l e rm s m ([.ref (h0 0), .int a1] : List Value).toArray below meth c H locs 0 0 (MQ below (xQ D cA A (MW cA h0 q.2) (some (.int q.1))) ([.ref (h0 0), .int a1] : List Value).toArray s 0 0 A) (F0 m 74 ls [.int t0_12]) := by
                clear h hP hD hS hl
                intro t0_12 v1_12 v2_12 v3_12 v4_12 s0_12 H locs hP hD hS ls hl h
                rw [eJ74] at h
                refine lv_istore (lv' := [(5, .int t0_12), (0, .ref (h0 0)), (1, .int v1_12), (2, .int v2_12), (3, .int v3_12), (4, .int v4_12)]) hx hb dX13_pays_74 hl (by decide) rfl (fun ls hl => ?_)
                refine lv_iload hx hb dX13_pays_76 (lv_at hl 0 rfl) ?_
                obtain ⟨J114, eJ114, h⟩ := x_join h
                have hJ_J114 : ∀ (v1_13 : Int32) (v2_13 : Int32) (v3_13 : Int32) (v4_13 : Int32) (s0_13 : MS) (H : Heap) (locs : List Loc), va_P D vwCl (MW cA h0 s0_13) H → va_D A (MW cA h0 s0_13) → va_S A s.heap H locs → ∀ ls : Array Slot, lv_has ls 6 [(0, .ref (h0 0)), (1, .int v1_13), (2, .int v2_13), (3, .int v3_13), (4, .int v4_13)] → J114 v1_13 v2_13 v3_13 v4_13 s0_13 = some q → W p l e rm s m ([.ref (h0 0), .int a1] : List Value).toArray below meth c H locs 0 0 (MQ below (xQ D cA A (MW cA h0 q.2) (some (.int q.1))) ([.ref (h0 0), .int a1] : List Value).toArray s 0 0 A) (F0 m 114 ls []) := by
                  clear h hP hD hS hl
                  intro v1_13 v2_13 v3_13 v4_13 s0_13 H locs hP hD hS ls hl h
                  rw [eJ114] at h
                  obtain ⟨x14, ex14⟩ : ∃ y : Int32, y = v4_13 + (-1) := ⟨_, rfl⟩
                  have h := x_let h ex14
                  refine lv_iinc (v := x14) (lv' := [(4, .int x14), (0, .ref (h0 0)), (1, .int v1_13), (2, .int v2_13), (3, .int v3_13)]) hx hb dX13_pays_114 hl (k := 4) rfl (by rw [ex14]; rfl) (by decide) rfl (fun ls hl => ?_)
                  refine lv_goto (tgt := 52) hx hb dX13_pays_117 (by decide) ?_
                  exact ih v1_13 v2_13 v3_13 x14 s0_13 _ _ hP hD hS _ (lv_sub hl [1, 2, 3, 4, 0] rfl) h
                refine lv_if_eq (tgt := 114) hx hb dX13_pays_78 (by decide) (fun c15 => ?_) (fun c15 => ?_)
                · have h := x_t h c15
                  exact hJ_J114 v1_12 v2_12 v3_12 v4_12 s0_12 _ _ hP hD hS _ (lv_sub hl [1, 2, 3, 4, 5] rfl) h
                · have h := x_f h c15
                  refine lv_iload_n hx hb dX13_pays_81 rfl (lv_at hl 3 rfl) ?_
                  refine lv_iload hx hb dX13_pays_82 (lv_at hl 5 rfl) ?_
                  refine lv_ishr hx hb dX13_pays_84 ?_
                  refine lv_iconst (v := 1) hx hb dX13_pays_85 (by decide) ?_
                  refine lv_iand hx hb dX13_pays_86 ?_
                  refine lv_iconst (v := 1) hx hb dX13_pays_87 (by decide) ?_
                  obtain ⟨J105, eJ105, h⟩ := x_join h
                  have hJ_J105 : ∀ (v1_16 : Int32) (v2_16 : Int32) (v3_16 : Int32) (v4_16 : Int32) (s0_16 : MS) (H : Heap) (locs : List Loc), va_P D vwCl (MW cA h0 s0_16) H → va_D A (MW cA h0 s0_16) → va_S A s.heap H locs → ∀ ls : Array Slot, lv_has ls 6 [(0, .ref (h0 0)), (1, .int v1_16), (2, .int v2_16), (3, .int v3_16), (4, .int v4_16)] → J105 v1_16 v2_16 v3_16 v4_16 s0_16 = some q → W p l e rm s m ([.ref (h0 0), .int a1] : List Value).toArray below meth c H locs 0 0 (MQ below (xQ D cA A (MW cA h0 q.2) (some (.int q.1))) ([.ref (h0 0), .int a1] : List Value).toArray s 0 0 A) (F0 m 105 ls []) := by
                    clear h hP hD hS hl
                    intro v1_16 v2_16 v3_16 v4_16 s0_16 H locs hP hD hS ls hl h
                    rw [eJ105] at h
                    refine lv_aload_n hx hb dX13_pays_105 rfl (lv_at hl 0 rfl) ?_
                    refine lv_iload hx hb dX13_pays_106 (lv_at hl 4 rfl) ?_
                    obtain ⟨q17, c17, h⟩ := x_call h
                    refine xCall (w2 := MW cA h0 q17) (xRunV (n := 1) (As := [.int v4_16]) (rest := []) ⟨hx, hb, hml, hown, hts⟩ (kX13_dropsBill l D cA h0 _ N v4_16 s0_16 q17 c17) qco_X13_dropsBill qml_X13_155 qin_X13_dropsBill qse_X13_dropsBill qini_X13 (by decide +kernel) (by rw [← erm]; rfl) hK hP hD [0, 1, 2, 3, 4, 5, 6, 7] rfl rfl (q0 := 0) rfl rfl rfl rfl rfl hl.1 rfl (lv_room (Nat.le_of_ble_eq_true rfl)) dX13_pays_108 ⟨Nat.zero_le _, Nat.zero_le _⟩) hP hD hS hA [0, 1, 2, 3, 4, 5, 6, 7] [] [0, 1, 2, 3, 4, 5, 6, 7] rfl (wr := []) rfl rfl rfl rfl rfl (fun H locs hP hD hS => ?_)
                    obtain ⟨x18, ex18⟩ : ∃ y : Int32, y = v3_16 + (1) := ⟨_, rfl⟩
                    have h := x_let h ex18
                    refine lv_iinc (v := x18) (lv' := [(3, .int x18), (0, .ref (h0 0)), (1, .int v1_16), (2, .int v2_16), (4, .int v4_16)]) hx hb dX13_pays_111 hl (k := 3) rfl (by rw [ex18]; rfl) (by decide) rfl (fun ls hl => ?_)
                    exact hJ_J114 v1_16 v2_16 x18 v4_16 q17 _ _ hP hD hS _ (lv_sub hl [1, 2, 3, 0, 4] rfl) h
                  refine lv_icmp_eq (tgt := 105) hx hb dX13_pays_88 (by decide) (fun c19 => ?_) (fun c19 => ?_)
                  · have h := x_t h c19
                    exact hJ_J105 v1_12 v2_12 v3_12 v4_12 s0_12 _ _ hP hD hS _ (lv_sub hl [1, 2, 3, 4, 5] rfl) h
                  · have h := x_f h c19
                    refine lv_aload_n hx hb dX13_pays_91 rfl (lv_at hl 1 rfl) ?_
                    refine va_get (D := D) (ci := 12) (v := .ref (h0 1)) (C := RX13) (T := TX13) (N := 16) hx hb hts iX13 hown hK hP 0 rfl rfl 0 (by decide) (hts _ qfl_X13_7) (fun _ h9 => h9) rfl dX13_pays_92 ?_
                    refine lv_sipush (v := 219) hx hb dX13_pays_95 (by decide) ?_
                    refine lv_iload hx hb dX13_pays_98 (lv_at hl 5 rfl) ?_
                    refine lv_iadd hx hb dX13_pays_100 ?_
                    obtain ⟨k20, hk20, h⟩ := x_rd h
                    refine xIald hx hb hK hP 1 0 rfl rfl hk20 dX13_pays_101 ?_
                    refine lv_if_ne (tgt := 114) hx hb dX13_pays_102 (by decide) (fun c21 => ?_) (fun c21 => ?_)
                    · have h := x_f h c21
                      exact hJ_J114 v1_12 v2_12 v3_12 v4_12 s0_12 _ _ hP hD hS _ (lv_sub hl [1, 2, 3, 4, 5] rfl) h
                    · have h := x_t h c21
                      exact hJ_J105 v1_12 v2_12 v3_12 v4_12 s0_12 _ _ hP hD hS _ (lv_sub hl [1, 2, 3, 4, 5] rfl) h
              refine lv_icmp_ge (tgt := 73) hx hb dX13_pays_66 (by decide) (fun c22 => ?_) (fun c22 => ?_)
              · have h := x_t h c22
                refine lv_iconst (v := 0) hx hb dX13_pays_73 (by decide) ?_
                exact hJ_J74 0 v1_10 v2_10 v3_10 v4_10 s0_10 _ _ hP hD hS _ (lv_sub hl [0, 1, 2, 3, 4] rfl) h
              · have h := x_f h c22
                refine lv_iconst (v := 1) hx hb dX13_pays_69 (by decide) ?_
                refine lv_goto (tgt := 74) hx hb dX13_pays_70 (by decide) ?_
                exact hJ_J74 1 v1_10 v2_10 v3_10 v4_10 s0_10 _ _ hP hD hS _ (lv_sub hl [0, 1, 2, 3, 4] rfl) h
        exact hL52 N v1_6 v2_6 0 9 s0_6 _ _ hP hD hS _ (lv_sub hl [2, 3, 4, 1, 0] rfl) h
      refine lv_if_ne (tgt := 46) hx hb dX13_pays_38 (by decide) (fun c23 => ?_) (fun c23 => ?_)
      · have h := x_f h c23
        exact hJ_J46 a1 q5 s0 _ _ hP hD hS _ (lv_sub hl [1, 2, 0] rfl) h
      · have h := x_t h c23
        refine lv_aload_n hx hb dX13_pays_41 rfl (lv_at hl 1 rfl) ?_
        refine lv_iload_n hx hb dX13_pays_42 rfl (lv_at hl 2 rfl) ?_
        obtain ⟨q24, c24, h⟩ := x_call h
        refine xCall (w2 := MW cA h0 q24) (xRunV (n := 1) (As := [.int a1]) (rest := []) ⟨hx, hb, hml, hown, hts⟩ (kX13_paysInOrder l D cA h0 _ N a1 s0 q24 c24) qco_X13_paysInOrder qml_X13_152 qin_X13_paysInOrder qse_X13_paysInOrder qini_X13 (by decide +kernel) (by rw [← erm]; rfl) hK hP hD [0, 1, 2, 3, 4, 5, 6, 7] rfl rfl (q0 := 0) rfl rfl rfl rfl rfl hl.1 rfl (lv_room (Nat.le_of_ble_eq_true rfl)) dX13_pays_43 ⟨Nat.zero_le _, Nat.zero_le _⟩) hP hD hS hA [0, 1, 2, 3, 4, 5, 6, 7] [] [0, 1, 2, 3, 4, 5, 6, 7] rfl (wr := []) rfl rfl rfl rfl rfl (fun H locs hP hD hS => ?_)
        exact hJ_J46 a1 q5 q24 _ _ hP hD hS _ (lv_sub hl [1, 2, 0] rfl) h
    · have h := x_f h c4
      refine lv_aload_n hx hb dX13_pays_25 rfl (lv_at hl 0 rfl) ?_
      refine lv_iconst (v := 2) hx hb dX13_pays_26 (by decide) ?_
      obtain ⟨q25, c25, h⟩ := x_call h
      refine xCall (w2 := MW cA h0 q25.2) (xRunV (n := 1) (As := [.int 2]) (rest := []) ⟨hx, hb, hml, hown, hts⟩ (kX13_fails l D cA h0 _ N 2 s0 q25 c25) qco_X13_fails qml_X13_57 qin_X13_fails qse_X13_fails qini_X13 (by decide +kernel) (by rw [← erm]; rfl) hK hP hD [0, 1, 2, 3, 4, 5, 6, 7] rfl rfl (q0 := 0) rfl rfl rfl rfl rfl hl.1 rfl (lv_room (Nat.le_of_ble_eq_true rfl)) dX13_pays_27 ⟨Nat.zero_le _, Nat.zero_le _⟩) hP hD hS hA [0, 1, 2, 3, 4, 5, 6, 7] [] [0, 1, 2, 3, 4, 5, 6, 7] rfl (wr := []) rfl rfl rfl rfl rfl (fun H locs hP hD hS => ?_)
      have h := Option.some.inj h
      subst h
      exact xIret hx hb hr hlocks hP hK hD hS dX13_pays_30
  · have h := x_t h c2
    refine lv_aload_n hx hb dX13_pays_11 rfl (lv_at hl 0 rfl) ?_
    refine lv_iconst (v := 1) hx hb dX13_pays_12 (by decide) ?_
    obtain ⟨q26, c26, h⟩ := x_call h
    refine xCall (w2 := MW cA h0 q26.2) (xRunV (n := 1) (As := [.int 1]) (rest := []) ⟨hx, hb, hml, hown, hts⟩ (kX13_fails l D cA h0 _ N 1 s0 q26 c26) qco_X13_fails qml_X13_57 qin_X13_fails qse_X13_fails qini_X13 (by decide +kernel) (by rw [← erm]; rfl) hK hP hD [0, 1, 2, 3, 4, 5, 6, 7] rfl rfl (q0 := 0) rfl rfl rfl rfl rfl hl.1 rfl (lv_room (Nat.le_of_ble_eq_true rfl)) dX13_pays_13 ⟨Nat.zero_le _, Nat.zero_le _⟩) hP hD hS hA [0, 1, 2, 3, 4, 5, 6, 7] [] [0, 1, 2, 3, 4, 5, 6, 7] rfl (wr := []) rfl rfl rfl rfl rfl (fun H locs hP hD hS => ?_)
    have h := Option.some.inj h
    subst h
    exact xIret hx hb hr hlocks hP hK hD hS dX13_pays_16
def fX13_pay (N : Nat) (a1 : Int32) (s0 : MS) : Option (Int32 × MS) :=
  xcall (fX13_begin N s0) fun q1 =>
  xcall (fX13_pays N a1 q1) fun q2 =>
  xcall (fX13_kept N q2.1 q2.2) fun q3 =>
  some (q3.1, q3.2)
set_option maxRecDepth 100000 in
set_option maxHeartbeats 4000000 in
theorem kX13_pay (l : Launch) (D : va_G) (cA : Nat → ClassId) (h0 : Nat → Nat) (sz N : Nat) (a1 : Int32) (s0 : MS) (q : Int32 × MS) (h : fX13_pay N a1 s0 = some q) : xM l yX13_pay cX13_pay 2 (some .int) ({ frames := 4, cells := 0, slots := 0, locals := 93 }) D cA (MW cA h0 s0) sz [.ref (h0 0), .int a1] (some (.int q.1)) (MW cA h0 q.2) := by
  generalize erm : ({ frames := 4, cells := 0, slots := 0, locals := 93 } : Room) = rm
  refine xMet (by decide) (Nat.le_of_ble_eq_true rfl) ?_
  intro p e s m below meth c hx hb hr hlocks hml hts hown hin hK hP A eA hD hS hA hsz ls hl
  have hl : lv_has ls 2 [(0, .ref (h0 0)), (1, .int a1)] := hl
  clear eA
  rw [fX13_pay] at h
  refine lv_aload_n hx hb dX13_pay_0 rfl (lv_at hl 0 rfl) ?_
  obtain ⟨q1, c1, h⟩ := x_call h
  refine xCall (w2 := MW cA h0 q1) (xRunV (n := 0) (As := []) (rest := []) ⟨hx, hb, hml, hown, hts⟩ (kX13_begin l D cA h0 _ N s0 q1 c1) qco_X13_begin qml_X13_63 qin_X13_begin qse_X13_begin qini_X13 (by decide +kernel) (by rw [← erm]; rfl) hK hP hD [0, 1, 2, 3, 4, 5, 6, 7] rfl rfl (q0 := 0) rfl rfl rfl rfl rfl hl.1 rfl (lv_room (Nat.le_of_ble_eq_true rfl)) dX13_pay_1 ⟨Nat.zero_le _, Nat.zero_le _⟩) hP hD hS hA [0, 1, 2, 3, 4, 5, 6, 7] [] [0, 1, 2, 3, 4, 5, 6, 7] rfl (wr := []) rfl rfl rfl rfl rfl (fun H locs hP hD hS => ?_)
  refine lv_aload_n hx hb dX13_pay_4 rfl (lv_at hl 0 rfl) ?_
  refine lv_aload_n hx hb dX13_pay_5 rfl (lv_at hl 0 rfl) ?_
  refine lv_iload_n hx hb dX13_pay_6 rfl (lv_at hl 1 rfl) ?_
  obtain ⟨q2, c2, h⟩ := x_call h
  refine xCall (w2 := MW cA h0 q2.2) (xRunV (n := 1) (As := [.int a1]) (rest := [.ref (h0 0)]) ⟨hx, hb, hml, hown, hts⟩ (kX13_pays l D cA h0 _ N a1 q1 q2 c2) qco_X13_pays qml_X13_158 qin_X13_pays qse_X13_pays qini_X13 (by decide +kernel) (by rw [← erm]; rfl) hK hP hD [0, 1, 2, 3, 4, 5, 6, 7] rfl rfl (q0 := 0) rfl rfl rfl rfl rfl hl.1 rfl (lv_room (Nat.le_of_ble_eq_true rfl)) dX13_pay_7 ⟨Nat.zero_le _, Nat.zero_le _⟩) hP hD hS hA [0, 1, 2, 3, 4, 5, 6, 7] [] [0, 1, 2, 3, 4, 5, 6, 7] rfl (wr := []) rfl rfl rfl rfl rfl (fun H locs hP hD hS => ?_)
  obtain ⟨q3, c3, h⟩ := x_call h
  refine xCall (w2 := MW cA h0 q3.2) (xRunV (n := 1) (As := [.int q2.1]) (rest := []) ⟨hx, hb, hml, hown, hts⟩ (kX13_kept l D cA h0 _ N q2.1 q2.2 q3 c3) qco_X13_kept qml_X13_74 qin_X13_kept qse_X13_kept qini_X13 (by decide +kernel) (by rw [← erm]; rfl) hK hP hD [0, 1, 2, 3, 4, 5, 6, 7] rfl rfl (q0 := 0) rfl rfl rfl rfl rfl hl.1 rfl (lv_room (Nat.le_of_ble_eq_true rfl)) dX13_pay_10 ⟨Nat.zero_le _, Nat.zero_le _⟩) hP hD hS hA [0, 1, 2, 3, 4, 5, 6, 7] [] [0, 1, 2, 3, 4, 5, 6, 7] rfl (wr := []) rfl rfl rfl rfl rfl (fun H locs hP hD hS => ?_)
  have h := Option.some.inj h
  subst h
  exact xIret hx hb hr hlocks hP hK hD hS dX13_pay_13
def fX13_falls_L7 (N : Nat) (K113 : Int32 → MS → Option (Int32 × MS)) : Nat → Int32 → Int32 → MS → Option (Int32 × MS)
  | 0, _, _, _ => none
  | n + 1, v1_5, v2_5, s0_5 =>
    if (s0_5.1 1) ≤ v2_5 then
      K113 v1_5 s0_5
    else
      xrd 229 (33 + v2_5) fun k7 =>
      xrd 229 (45 + v2_5) fun k8 =>
      xlet ((s0_5.1 k7) - (s0_5.1 k8)) fun x9 =>
      xrd 229 (9 + v2_5) fun k10 =>
      xjoin (fun (t0_11 : Int32) (v1_11 : Int32) (v2_11 : Int32) (v3_11 : Int32) (s0_11 : MS) =>
          xjoin (fun (v1_12 : Int32) (v2_12 : Int32) (s0_12 : MS) =>
              xlet (v2_12 + (1)) fun x13 =>
              fX13_falls_L7 N K113 n v1_12 x13 s0_12
            ) fun J107 =>
          if t0_11 = 0 then
            J107 v1_11 v2_11 s0_11
          else
            if v3_11 = 0 then
              J107 v1_11 v2_11 s0_11
            else
              xjoin (fun (t0_16 : Int32) (v1_16 : Int32) (v2_16 : Int32) (s0_16 : MS) =>
                  J107 v1_16 v2_16 s0_16
                ) fun J105 =>
              if v3_11 ≤ 0 then
                xcall (fX13_enters N v2_11 3 (-v3_11) 0 s0_11) fun q18 =>
                J105 q18.1 v1_11 v2_11 q18.2
              else
                xcall (fX13_enters N 3 v2_11 v3_11 0 s0_11) fun q19 =>
                J105 q19.1 v1_11 v2_11 q19.2
        ) fun J70 =>
      xjoin (fun (v1_20 : Int32) (v2_20 : Int32) (v3_20 : Int32) (s0_20 : MS) =>
          J70 1 v1_20 v2_20 v3_20 s0_20
        ) fun J65 =>
      if (s0_5.1 k10) = 105 then
        J65 v1_5 v2_5 x9 s0_5
      else
        xrd 229 (9 + v2_5) fun k22 =>
        if (s0_5.1 k22) = 101 then
          J65 v1_5 v2_5 x9 s0_5
        else
          J70 0 v1_5 v2_5 x9 s0_5
def fX13_falls (N : Nat)  (s0 : MS) : Option (Int32 × MS) :=
  xcall (fX13_profitNow N s0) fun q1 =>
  xjoin (fun (v1_2 : Int32) (s0_2 : MS) =>
      xlet (upd s0_2.1 8 ((s0_2.1 8) + 1)) fun g3 =>
      xcall (fX13_done N v1_2 ((Ms0 s0_2 g3))) fun q4 =>
      some (q4.1, q4.2)
    ) fun K113 =>
  fX13_falls_L7 N K113 N q1 0 s0
set_option maxRecDepth 100000 in
set_option maxHeartbeats 4000000 in
theorem kX13_falls (l : Launch) (D : va_G) (cA : Nat → ClassId) (h0 : Nat → Nat) (sz N : Nat)  (s0 : MS) (q : Int32 × MS) (h : fX13_falls N s0 = some q) : xM l yX13_falls cX13_falls 6 (some .int) ({ frames := 2, cells := 0, slots := 0, locals := 44 }) D cA (MW cA h0 s0) sz [.ref (h0 0)] (some (.int q.1)) (MW cA h0 q.2) := by
  generalize erm : ({ frames := 2, cells := 0, slots := 0, locals := 44 } : Room) = rm
  refine xMet (by decide) (Nat.le_of_ble_eq_true rfl) ?_
  intro p e s m below meth c hx hb hr hlocks hml hts hown hin hK hP A eA hD hS hA hsz ls hl
  have hl : lv_has ls 6 [(0, .ref (h0 0))] := hl
  clear eA
  rw [fX13_falls] at h
  refine lv_aload_n hx hb dX13_falls_0 rfl (lv_at hl 0 rfl) ?_
  obtain ⟨q1, c1, h⟩ := x_call h
  refine xCall (w2 := MW cA h0 s0) (xRunV (n := 0) (As := []) (rest := []) ⟨hx, hb, hml, hown, hts⟩ (kX13_profitNow l D cA h0 _ N s0 q1 c1) qco_X13_profitNow qml_X13_161 qin_X13_profitNow qse_X13_profitNow qini_X13 (by decide +kernel) (by rw [← erm]; rfl) hK hP hD [0, 1, 2, 3, 4, 5, 6, 7] rfl rfl (q0 := 0) rfl rfl rfl rfl rfl hl.1 rfl (lv_room (Nat.le_of_ble_eq_true rfl)) dX13_falls_1 ⟨Nat.zero_le _, Nat.zero_le _⟩) hP hD hS hA [0, 1, 2, 3, 4, 5, 6, 7] [] [0, 1, 2, 3, 4, 5, 6, 7] rfl (wr := []) rfl rfl rfl rfl rfl (fun H locs hP hD hS => ?_)
  refine lv_istore_n (lv' := [(1, .int q1), (0, .ref (h0 0))]) hx hb dX13_falls_4 rfl hl (by decide) rfl (fun ls hl => ?_)
  refine lv_iconst (v := 0) hx hb dX13_falls_5 (by decide) ?_
  refine lv_istore_n (lv' := [(2, .int 0), (1, .int q1), (0, .ref (h0 0))]) hx hb dX13_falls_6 rfl hl (by decide) rfl (fun ls hl => ?_)
  obtain ⟨K113, eK113, h⟩ := x_join h
  have hJ_K113 : ∀ (v1_2 : Int32) (s0_2 : MS) (H : Heap) (locs : List Loc), va_P D vwCl (MW cA h0 s0_2) H → va_D A (MW cA h0 s0_2) → va_S A s.heap H locs → ∀ ls : Array Slot, lv_has ls 6 [(0, .ref (h0 0)), (1, .int v1_2)] → K113 v1_2 s0_2 = some q → W p l e rm s m ([.ref (h0 0)] : List Value).toArray below meth c H locs 0 0 (MQ below (xQ D cA A (MW cA h0 q.2) (some (.int q.1))) ([.ref (h0 0)] : List Value).toArray s 0 0 A) (F0 m 113 ls []) := by
    clear h hP hD hS hl
    intro v1_2 s0_2 H locs hP hD hS ls hl h
    rw [eK113] at h
    refine lv_aload_n hx hb dX13_falls_113 rfl (lv_at hl 0 rfl) ?_
    refine va_get (D := D) (ci := 12) (v := .ref (h0 1)) (C := RX13) (T := TX13) (N := 16) hx hb hts iX13 hown hK hP 0 rfl rfl 0 (by decide) (hts _ qfl_X13_7) (fun _ h9 => h9) rfl dX13_falls_114 ?_
    refine lv_bipush (v := 8) hx hb dX13_falls_117 (by decide) ?_
    refine lv_dup2_11 hx hb dX13_falls_119 rfl rfl ?_
    refine xIald hx hb hK hP 1 0 rfl rfl (x_lit (k := 8) (by decide)) dX13_falls_120 ?_
    refine lv_iconst (v := 1) hx hb dX13_falls_121 (by decide) ?_
    refine lv_iadd hx hb dX13_falls_122 ?_
    refine xIast (w2 := fun zz => MW cA h0 ((Ms0 s0_2 zz))) hx hb hK hP hD hS 1 0 rfl rfl (x_lit (k := 8) (by decide)) (fun _ => rfl) dX13_falls_123 (fun g3 eg3 H locs hP hD hS => ?_)
    have h := x_let h eg3
    have hP : va_P D vwCl (MW cA h0 ((Ms0 s0_2 g3))) H := hP
    have hD : va_D A (MW cA h0 ((Ms0 s0_2 g3))) := hD
    refine lv_aload_n hx hb dX13_falls_124 rfl (lv_at hl 0 rfl) ?_
    refine lv_iload_n hx hb dX13_falls_125 rfl (lv_at hl 1 rfl) ?_
    obtain ⟨q4, c4, h⟩ := x_call h
    refine xCall (w2 := MW cA h0 q4.2) (xRunV (n := 1) (As := [.int v1_2]) (rest := []) ⟨hx, hb, hml, hown, hts⟩ (kX13_done l D cA h0 _ N v1_2 ((Ms0 s0_2 g3)) q4 c4) qco_X13_done qml_X13_60 qin_X13_done qse_X13_done qini_X13 (by decide +kernel) (by rw [← erm]; rfl) hK hP hD [0, 1, 2, 3, 4, 5, 6, 7] rfl rfl (q0 := 0) rfl rfl rfl rfl rfl hl.1 rfl (lv_room (Nat.le_of_ble_eq_true rfl)) dX13_falls_126 ⟨Nat.zero_le _, Nat.zero_le _⟩) hP hD hS hA [0, 1, 2, 3, 4, 5, 6, 7] [] [0, 1, 2, 3, 4, 5, 6, 7] rfl (wr := []) rfl rfl rfl rfl rfl (fun H locs hP hD hS => ?_)
    have h := Option.some.inj h
    subst h
    exact xIret hx hb hr hlocks hP hK hD hS dX13_falls_129
  have hL7 : ∀ (n : Nat) (v1_5 : Int32) (v2_5 : Int32) (s0_5 : MS) (H : Heap) (locs : List Loc), va_P D vwCl (MW cA h0 s0_5) H → va_D A (MW cA h0 s0_5) → va_S A s.heap H locs → ∀ ls : Array Slot, lv_has ls 6 [(0, .ref (h0 0)), (1, .int v1_5), (2, .int v2_5)] → fX13_falls_L7 N K113 n v1_5 v2_5 s0_5 = some q → W p l e rm s m ([.ref (h0 0)] : List Value).toArray below meth c H locs 0 0 (MQ below (xQ D cA A (MW cA h0 q.2) (some (.int q.1))) ([.ref (h0 0)] : List Value).toArray s 0 0 A) (F0 m 7 ls []) := by
    clear h hP hD hS hl
    intro n
    induction n with
    | zero => intro v1_5 v2_5 s0_5 H locs hP hD hS ls hl h; rw [fX13_falls_L7] at h; cases h
    | succ n ih =>
      intro v1_5 v2_5 s0_5 H locs hP hD hS ls hl h
      rw [fX13_falls_L7] at h
      refine lv_iload_n hx hb dX13_falls_7 rfl (lv_at hl 2 rfl) ?_
      refine lv_aload_n hx hb dX13_falls_8 rfl (lv_at hl 0 rfl) ?_
      refine va_get (D := D) (ci := 12) (v := .ref (h0 1)) (C := RX13) (T := TX13) (N := 16) hx hb hts iX13 hown hK hP 0 rfl rfl 0 (by decide) (hts _ qfl_X13_7) (fun _ h9 => h9) rfl dX13_falls_9 ?_
      refine lv_iconst (v := 1) hx hb dX13_falls_12 (by decide) ?_
      refine xIald hx hb hK hP 1 0 rfl rfl (x_lit (k := 1) (by decide)) dX13_falls_13 ?_
      refine lv_icmp_ge (tgt := 113) hx hb dX13_falls_14 (by decide) (fun c6 => ?_) (fun c6 => ?_)
      · have h := x_t h c6
        exact hJ_K113 v1_5 s0_5 _ _ hP hD hS _ (lv_sub hl [0, 1] rfl) h
      · have h := x_f h c6
        refine lv_aload_n hx hb dX13_falls_17 rfl (lv_at hl 0 rfl) ?_
        refine va_get (D := D) (ci := 12) (v := .ref (h0 1)) (C := RX13) (T := TX13) (N := 16) hx hb hts iX13 hown hK hP 0 rfl rfl 0 (by decide) (hts _ qfl_X13_7) (fun _ h9 => h9) rfl dX13_falls_18 ?_
        refine lv_bipush (v := 33) hx hb dX13_falls_21 (by decide) ?_
        refine lv_iload_n hx hb dX13_falls_23 rfl (lv_at hl 2 rfl) ?_
        refine lv_iadd hx hb dX13_falls_24 ?_
        obtain ⟨k7, hk7, h⟩ := x_rd h
        refine xIald hx hb hK hP 1 0 rfl rfl hk7 dX13_falls_25 ?_
        refine lv_aload_n hx hb dX13_falls_26 rfl (lv_at hl 0 rfl) ?_
        refine va_get (D := D) (ci := 12) (v := .ref (h0 1)) (C := RX13) (T := TX13) (N := 16) hx hb hts iX13 hown hK hP 0 rfl rfl 0 (by decide) (hts _ qfl_X13_7) (fun _ h9 => h9) rfl dX13_falls_27 ?_
        refine lv_bipush (v := 45) hx hb dX13_falls_30 (by decide) ?_
        refine lv_iload_n hx hb dX13_falls_32 rfl (lv_at hl 2 rfl) ?_
        refine lv_iadd hx hb dX13_falls_33 ?_
        obtain ⟨k8, hk8, h⟩ := x_rd h
        refine xIald hx hb hK hP 1 0 rfl rfl hk8 dX13_falls_34 ?_
        refine lv_isub hx hb dX13_falls_35 ?_
        refine lv_topi (fun x9 ex9 => ?_)
        have h := x_let h ex9
        refine lv_istore_n (lv' := [(3, .int x9), (0, .ref (h0 0)), (1, .int v1_5), (2, .int v2_5)]) hx hb dX13_falls_36 rfl hl (by decide) rfl (fun ls hl => ?_)
        refine lv_aload_n hx hb dX13_falls_37 rfl (lv_at hl 1 rfl) ?_
        refine va_get (D := D) (ci := 12) (v := .ref (h0 1)) (C := RX13) (T := TX13) (N := 16) hx hb hts iX13 hown hK hP 0 rfl rfl 0 (by decide) (hts _ qfl_X13_7) (fun _ h9 => h9) rfl dX13_falls_38 ?_
        refine lv_bipush (v := 9) hx hb dX13_falls_41 (by decide) ?_
        refine lv_iload_n hx hb dX13_falls_43 rfl (lv_at hl 3 rfl) ?_
        refine lv_iadd hx hb dX13_falls_44 ?_
        obtain ⟨k10, hk10, h⟩ := x_rd h
        refine xIald hx hb hK hP 1 0 rfl rfl hk10 dX13_falls_45 ?_
        refine lv_bipush (v := 105) hx hb dX13_falls_46 (by decide) ?_
        obtain ⟨J70, eJ70, h⟩ := x_join h
        have hJ_J70 : ∀ (t0_11 : Int32) (v1_11 : Int32) (v2_11 : Int32) (v3_11 : Int32) (s0_11 : MS) (H : Heap) (locs : List Loc), va_P D vwCl (MW cA h0 s0_11) H → va_D A (MW cA h0 s0_11) → va_S A s.heap H locs → ∀ ls : Array Slot, lv_has ls 6 [(0, .ref (h0 0)), (1, .int v1_11), (2, .int v2_11), (3, .int v3_11)] → J70 t0_11 v1_11 v2_11 v3_11 s0_11 = some q → W p l e rm s m ([.ref (h0 0)] : List Value).toArray below meth c H locs 0 0 (MQ below (xQ D cA A (MW cA h0 q.2) (some (.int q.1))) ([.ref (h0 0)] : List Value).toArray s 0 0 A) (F0 m 70 ls [.int t0_11]) := by
          clear h hP hD hS hl
          intro t0_11 v1_11 v2_11 v3_11 s0_11 H locs hP hD hS ls hl h
          rw [eJ70] at h
          refine lv_istore (lv' := [(4, .int t0_11), (0, .ref (h0 0)), (1, .int v1_11), (2, .int v2_11), (3, .int v3_11)]) hx hb dX13_falls_70 hl (by decide) rfl (fun ls hl => ?_)
          refine lv_iload hx hb dX13_falls_72 (lv_at hl 0 rfl) ?_
          obtain ⟨J107, eJ107, h⟩ := x_join h
          have hJ_J107 : ∀ (v1_12 : Int32) (v2_12 : Int32) (s0_12 : MS) (H : Heap) (locs : List Loc), va_P D vwCl (MW cA h0 s0_12) H → va_D A (MW cA h0 s0_12) → va_S A s.heap H locs → ∀ ls : Array Slot, lv_has ls 6 [(0, .ref (h0 0)), (1, .int v1_12), (2, .int v2_12)] → J107 v1_12 v2_12 s0_12 = some q → W p l e rm s m ([.ref (h0 0)] : List Value).toArray below meth c H locs 0 0 (MQ below (xQ D cA A (MW cA h0 q.2) (some (.int q.1))) ([.ref (h0 0)] : List Value).toArray s 0 0 A) (F0 m 107 ls []) := by
            clear h hP hD hS hl
            intro v1_12 v2_12 s0_12 H locs hP hD hS ls hl h
            rw [eJ107] at h
            obtain ⟨x13, ex13⟩ : ∃ y : Int32, y = v2_12 + (1) := ⟨_, rfl⟩
            have h := x_let h ex13
            refine lv_iinc (v := x13) (lv' := [(2, .int x13), (0, .ref (h0 0)), (1, .int v1_12)]) hx hb dX13_falls_107 hl (k := 2) rfl (by rw [ex13]; rfl) (by decide) rfl (fun ls hl => ?_)
            refine lv_goto (tgt := 7) hx hb dX13_falls_110 (by decide) ?_
            exact ih v1_12 x13 s0_12 _ _ hP hD hS _ (lv_sub hl [1, 2, 0] rfl) h
          refine lv_if_eq (tgt := 107) hx hb dX13_falls_74 (by decide) (fun c14 => ?_) (fun c14 => ?_)
          · have h := x_t h c14
            exact hJ_J107 v1_11 v2_11 s0_11 _ _ hP hD hS _ (lv_sub hl [1, 2, 3] rfl) h
          · have h := x_f h c14
            refine lv_iload_n hx hb dX13_falls_77 rfl (lv_at hl 4 rfl) ?_
            refine lv_if_eq (tgt := 107) hx hb dX13_falls_78 (by decide) (fun c15 => ?_) (fun c15 => ?_)
            · have h := x_t h c15
              exact hJ_J107 v1_11 v2_11 s0_11 _ _ hP hD hS _ (lv_sub hl [1, 2, 3] rfl) h
            · have h := x_f h c15
              refine lv_iload_n hx hb dX13_falls_81 rfl (lv_at hl 4 rfl) ?_
              obtain ⟨J105, eJ105, h⟩ := x_join h
              have hJ_J105 : ∀ (t0_16 : Int32) (v1_16 : Int32) (v2_16 : Int32) (s0_16 : MS) (H : Heap) (locs : List Loc), va_P D vwCl (MW cA h0 s0_16) H → va_D A (MW cA h0 s0_16) → va_S A s.heap H locs → ∀ ls : Array Slot, lv_has ls 6 [(0, .ref (h0 0)), (1, .int v1_16), (2, .int v2_16)] → J105 t0_16 v1_16 v2_16 s0_16 = some q → W p l e rm s m ([.ref (h0 0)] : List Value).toArray below meth c H locs 0 0 (MQ below (xQ D cA A (MW cA h0 q.2) (some (.int q.1))) ([.ref (h0 0)] : List Value).toArray s 0 0 A) (F0 m 105 ls [.int t0_16]) := by
                clear h hP hD hS hl
                intro t0_16 v1_16 v2_16 s0_16 H locs hP hD hS ls hl h
                rw [eJ105] at h
                refine lv_istore (lv' := [(5, .int t0_16), (0, .ref (h0 0)), (1, .int v1_16), (2, .int v2_16)]) hx hb dX13_falls_105 hl (by decide) rfl (fun ls hl => ?_)
                exact hJ_J107 v1_16 v2_16 s0_16 _ _ hP hD hS _ (lv_sub hl [1, 2, 3] rfl) h
              refine lv_if_le (tgt := 96) hx hb dX13_falls_82 (by decide) (fun c17 => ?_) (fun c17 => ?_)
              · have h := x_t h c17
                refine lv_aload_n hx hb dX13_falls_96 rfl (lv_at hl 1 rfl) ?_
                refine lv_iload_n hx hb dX13_falls_97 rfl (lv_at hl 3 rfl) ?_
                refine lv_iconst (v := 3) hx hb dX13_falls_98 (by decide) ?_
                refine lv_iload_n hx hb dX13_falls_99 rfl (lv_at hl 4 rfl) ?_
                refine lv_ineg hx hb dX13_falls_100 ?_
                refine lv_iconst (v := 0) hx hb dX13_falls_101 (by decide) ?_
                obtain ⟨q18, c18, h⟩ := x_call h
                refine xCall (w2 := MW cA h0 q18.2) (xRunV (n := 4) (As := [.int v2_11, .int 3, .int (-v3_11), .int 0]) (rest := []) ⟨hx, hb, hml, hown, hts⟩ (kX13_enters l D cA h0 _ N v2_11 3 (-v3_11) 0 s0_11 q18 c18) qco_X13_enters qml_X13_84 qin_X13_enters qse_X13_enters qini_X13 (by decide +kernel) (by rw [← erm]; rfl) hK hP hD [0, 1, 2, 3, 4, 5, 6, 7] rfl rfl (q0 := 0) rfl rfl rfl rfl rfl hl.1 rfl (lv_room (Nat.le_of_ble_eq_true rfl)) dX13_falls_102 ⟨Nat.zero_le _, Nat.zero_le _⟩) hP hD hS hA [0, 1, 2, 3, 4, 5, 6, 7] [] [0, 1, 2, 3, 4, 5, 6, 7] rfl (wr := []) rfl rfl rfl rfl rfl (fun H locs hP hD hS => ?_)
                exact hJ_J105 q18.1 v1_11 v2_11 q18.2 _ _ hP hD hS _ (lv_sub hl [1, 2, 3] rfl) h
              · have h := x_f h c17
                refine lv_aload_n hx hb dX13_falls_85 rfl (lv_at hl 1 rfl) ?_
                refine lv_iconst (v := 3) hx hb dX13_falls_86 (by decide) ?_
                refine lv_iload_n hx hb dX13_falls_87 rfl (lv_at hl 3 rfl) ?_
                refine lv_iload_n hx hb dX13_falls_88 rfl (lv_at hl 4 rfl) ?_
                refine lv_iconst (v := 0) hx hb dX13_falls_89 (by decide) ?_
                obtain ⟨q19, c19, h⟩ := x_call h
                refine xCall (w2 := MW cA h0 q19.2) (xRunV (n := 4) (As := [.int 3, .int v2_11, .int v3_11, .int 0]) (rest := []) ⟨hx, hb, hml, hown, hts⟩ (kX13_enters l D cA h0 _ N 3 v2_11 v3_11 0 s0_11 q19 c19) qco_X13_enters qml_X13_84 qin_X13_enters qse_X13_enters qini_X13 (by decide +kernel) (by rw [← erm]; rfl) hK hP hD [0, 1, 2, 3, 4, 5, 6, 7] rfl rfl (q0 := 0) rfl rfl rfl rfl rfl hl.1 rfl (lv_room (Nat.le_of_ble_eq_true rfl)) dX13_falls_90 ⟨Nat.zero_le _, Nat.zero_le _⟩) hP hD hS hA [0, 1, 2, 3, 4, 5, 6, 7] [] [0, 1, 2, 3, 4, 5, 6, 7] rfl (wr := []) rfl rfl rfl rfl rfl (fun H locs hP hD hS => ?_)
                refine lv_goto (tgt := 105) hx hb dX13_falls_93 (by decide) ?_
                exact hJ_J105 q19.1 v1_11 v2_11 q19.2 _ _ hP hD hS _ (lv_sub hl [1, 2, 3] rfl) h
        obtain ⟨J65, eJ65, h⟩ := x_join h
        have hJ_J65 : ∀ (v1_20 : Int32) (v2_20 : Int32) (v3_20 : Int32) (s0_20 : MS) (H : Heap) (locs : List Loc), va_P D vwCl (MW cA h0 s0_20) H → va_D A (MW cA h0 s0_20) → va_S A s.heap H locs → ∀ ls : Array Slot, lv_has ls 6 [(0, .ref (h0 0)), (1, .int v1_20), (2, .int v2_20), (3, .int v3_20)] → J65 v1_20 v2_20 v3_20 s0_20 = some q → W p l e rm s m ([.ref (h0 0)] : List Value).toArray below meth c H locs 0 0 (MQ below (xQ D cA A (MW cA h0 q.2) (some (.int q.1))) ([.ref (h0 0)] : List Value).toArray s 0 0 A) (F0 m 65 ls []) := by
          clear h hP hD hS hl
          intro v1_20 v2_20 v3_20 s0_20 H locs hP hD hS ls hl h
          rw [eJ65] at h
          refine lv_iconst (v := 1) hx hb dX13_falls_65 (by decide) ?_
          refine lv_goto (tgt := 70) hx hb dX13_falls_66 (by decide) ?_
          exact hJ_J70 1 v1_20 v2_20 v3_20 s0_20 _ _ hP hD hS _ (lv_sub hl [0, 1, 2, 3] rfl) h
        refine lv_icmp_eq (tgt := 65) hx hb dX13_falls_48 (by decide) (fun c21 => ?_) (fun c21 => ?_)
        · have h := x_t h c21
          exact hJ_J65 v1_5 v2_5 x9 s0_5 _ _ hP hD hS _ (lv_sub hl [1, 2, 3, 0] rfl) h
        · have h := x_f h c21
          refine lv_aload_n hx hb dX13_falls_51 rfl (lv_at hl 1 rfl) ?_
          refine va_get (D := D) (ci := 12) (v := .ref (h0 1)) (C := RX13) (T := TX13) (N := 16) hx hb hts iX13 hown hK hP 0 rfl rfl 0 (by decide) (hts _ qfl_X13_7) (fun _ h9 => h9) rfl dX13_falls_52 ?_
          refine lv_bipush (v := 9) hx hb dX13_falls_55 (by decide) ?_
          refine lv_iload_n hx hb dX13_falls_57 rfl (lv_at hl 3 rfl) ?_
          refine lv_iadd hx hb dX13_falls_58 ?_
          obtain ⟨k22, hk22, h⟩ := x_rd h
          refine xIald hx hb hK hP 1 0 rfl rfl hk22 dX13_falls_59 ?_
          refine lv_bipush (v := 101) hx hb dX13_falls_60 (by decide) ?_
          refine lv_icmp_ne (tgt := 69) hx hb dX13_falls_62 (by decide) (fun c23 => ?_) (fun c23 => ?_)
          · have h := x_f h c23
            refine lv_iconst (v := 0) hx hb dX13_falls_69 (by decide) ?_
            exact hJ_J70 0 v1_5 v2_5 x9 s0_5 _ _ hP hD hS _ (lv_sub hl [1, 2, 3, 0] rfl) h
          · have h := x_t h c23
            exact hJ_J65 v1_5 v2_5 x9 s0_5 _ _ hP hD hS _ (lv_sub hl [1, 2, 3, 0] rfl) h
  exact hL7 N q1 0 s0 _ _ hP hD hS _ (lv_sub hl [2, 1, 0] rfl) h
def fX13_curtain (N : Nat)  (s0 : MS) : Option (Int32 × MS) :=
  xcall (fX13_begin N s0) fun q1 =>
  xcall (fX13_falls N q1) fun q2 =>
  xcall (fX13_kept N q2.1 q2.2) fun q3 =>
  some (q3.1, q3.2)
set_option maxRecDepth 100000 in
set_option maxHeartbeats 4000000 in
theorem kX13_curtain (l : Launch) (D : va_G) (cA : Nat → ClassId) (h0 : Nat → Nat) (sz N : Nat)  (s0 : MS) (q : Int32 × MS) (h : fX13_curtain N s0 = some q) : xM l yX13_curtain cX13_curtain 1 (some .int) ({ frames := 3, cells := 0, slots := 0, locals := 69 }) D cA (MW cA h0 s0) sz [.ref (h0 0)] (some (.int q.1)) (MW cA h0 q.2) := by
  generalize erm : ({ frames := 3, cells := 0, slots := 0, locals := 69 } : Room) = rm
  refine xMet (by decide) (Nat.le_of_ble_eq_true rfl) ?_
  intro p e s m below meth c hx hb hr hlocks hml hts hown hin hK hP A eA hD hS hA hsz ls hl
  have hl : lv_has ls 1 [(0, .ref (h0 0))] := hl
  clear eA
  rw [fX13_curtain] at h
  refine lv_aload_n hx hb dX13_curtain_0 rfl (lv_at hl 0 rfl) ?_
  obtain ⟨q1, c1, h⟩ := x_call h
  refine xCall (w2 := MW cA h0 q1) (xRunV (n := 0) (As := []) (rest := []) ⟨hx, hb, hml, hown, hts⟩ (kX13_begin l D cA h0 _ N s0 q1 c1) qco_X13_begin qml_X13_63 qin_X13_begin qse_X13_begin qini_X13 (by decide +kernel) (by rw [← erm]; rfl) hK hP hD [0, 1, 2, 3, 4, 5, 6, 7] rfl rfl (q0 := 0) rfl rfl rfl rfl rfl hl.1 rfl (lv_room (Nat.le_of_ble_eq_true rfl)) dX13_curtain_1 ⟨Nat.zero_le _, Nat.zero_le _⟩) hP hD hS hA [0, 1, 2, 3, 4, 5, 6, 7] [] [0, 1, 2, 3, 4, 5, 6, 7] rfl (wr := []) rfl rfl rfl rfl rfl (fun H locs hP hD hS => ?_)
  refine lv_aload_n hx hb dX13_curtain_4 rfl (lv_at hl 0 rfl) ?_
  refine lv_aload_n hx hb dX13_curtain_5 rfl (lv_at hl 0 rfl) ?_
  obtain ⟨q2, c2, h⟩ := x_call h
  refine xCall (w2 := MW cA h0 q2.2) (xRunV (n := 0) (As := []) (rest := [.ref (h0 0)]) ⟨hx, hb, hml, hown, hts⟩ (kX13_falls l D cA h0 _ N q1 q2 c2) qco_X13_falls qml_X13_164 qin_X13_falls qse_X13_falls qini_X13 (by decide +kernel) (by rw [← erm]; rfl) hK hP hD [0, 1, 2, 3, 4, 5, 6, 7] rfl rfl (q0 := 0) rfl rfl rfl rfl rfl hl.1 rfl (lv_room (Nat.le_of_ble_eq_true rfl)) dX13_curtain_6 ⟨Nat.zero_le _, Nat.zero_le _⟩) hP hD hS hA [0, 1, 2, 3, 4, 5, 6, 7] [] [0, 1, 2, 3, 4, 5, 6, 7] rfl (wr := []) rfl rfl rfl rfl rfl (fun H locs hP hD hS => ?_)
  obtain ⟨q3, c3, h⟩ := x_call h
  refine xCall (w2 := MW cA h0 q3.2) (xRunV (n := 1) (As := [.int q2.1]) (rest := []) ⟨hx, hb, hml, hown, hts⟩ (kX13_kept l D cA h0 _ N q2.1 q2.2 q3 c3) qco_X13_kept qml_X13_74 qin_X13_kept qse_X13_kept qini_X13 (by decide +kernel) (by rw [← erm]; rfl) hK hP hD [0, 1, 2, 3, 4, 5, 6, 7] rfl rfl (q0 := 0) rfl rfl rfl rfl rfl hl.1 rfl (lv_room (Nat.le_of_ble_eq_true rfl)) dX13_curtain_9 ⟨Nat.zero_le _, Nat.zero_le _⟩) hP hD hS hA [0, 1, 2, 3, 4, 5, 6, 7] [] [0, 1, 2, 3, 4, 5, 6, 7] rfl (wr := []) rfl rfl rfl rfl rfl (fun H locs hP hD hS => ?_)
  have h := Option.some.inj h
  subst h
  exact xIret hx hb hr hlocks hP hK hD hS dX13_curtain_12
def fX13_hour (N : Nat)  (s0 : MS) : Option (Int32 × MS) :=
  xcall (fX13_done N (s0.1 0) s0) fun q1 =>
  some (q1.1, q1.2)
set_option maxRecDepth 100000 in
set_option maxHeartbeats 4000000 in
theorem kX13_hour (l : Launch) (D : va_G) (cA : Nat → ClassId) (h0 : Nat → Nat) (sz N : Nat)  (s0 : MS) (q : Int32 × MS) (h : fX13_hour N s0 = some q) : xM l yX13_hour cX13_hour 1 (some .int) ({ frames := 1, cells := 0, slots := 0, locals := 21 }) D cA (MW cA h0 s0) sz [.ref (h0 0)] (some (.int q.1)) (MW cA h0 q.2) := by
  generalize erm : ({ frames := 1, cells := 0, slots := 0, locals := 21 } : Room) = rm
  refine xMet (by decide) (Nat.le_of_ble_eq_true rfl) ?_
  intro p e s m below meth c hx hb hr hlocks hml hts hown hin hK hP A eA hD hS hA hsz ls hl
  have hl : lv_has ls 1 [(0, .ref (h0 0))] := hl
  clear eA
  rw [fX13_hour] at h
  refine lv_aload_n hx hb dX13_hour_0 rfl (lv_at hl 0 rfl) ?_
  refine lv_aload_n hx hb dX13_hour_1 rfl (lv_at hl 0 rfl) ?_
  refine va_get (D := D) (ci := 12) (v := .ref (h0 1)) (C := RX13) (T := TX13) (N := 16) hx hb hts iX13 hown hK hP 0 rfl rfl 0 (by decide) (hts _ qfl_X13_7) (fun _ h9 => h9) rfl dX13_hour_2 ?_
  refine lv_iconst (v := 0) hx hb dX13_hour_5 (by decide) ?_
  refine xIald hx hb hK hP 1 0 rfl rfl (x_lit (k := 0) (by decide)) dX13_hour_6 ?_
  obtain ⟨q1, c1, h⟩ := x_call h
  refine xCall (w2 := MW cA h0 q1.2) (xRunV (n := 1) (As := [.int (s0.1 0)]) (rest := []) ⟨hx, hb, hml, hown, hts⟩ (kX13_done l D cA h0 _ N (s0.1 0) s0 q1 c1) qco_X13_done qml_X13_60 qin_X13_done qse_X13_done qini_X13 (by decide +kernel) (by rw [← erm]; rfl) hK hP hD [0, 1, 2, 3, 4, 5, 6, 7] rfl rfl (q0 := 0) rfl rfl rfl rfl rfl hl.1 rfl (lv_room (Nat.le_of_ble_eq_true rfl)) dX13_hour_7 ⟨Nat.zero_le _, Nat.zero_le _⟩) hP hD hS hA [0, 1, 2, 3, 4, 5, 6, 7] [] [0, 1, 2, 3, 4, 5, 6, 7] rfl (wr := []) rfl rfl rfl rfl rfl (fun H locs hP hD hS => ?_)
  have h := Option.some.inj h
  subst h
  exact xIret hx hb hr hlocks hP hK hD hS dX13_hour_10
def fX13_accountCount (N : Nat)  (s0 : MS) : Option (Int32 × MS) :=
  xcall (fX13_done N (s0.1 1) s0) fun q1 =>
  some (q1.1, q1.2)
set_option maxRecDepth 100000 in
set_option maxHeartbeats 4000000 in
theorem kX13_accountCount (l : Launch) (D : va_G) (cA : Nat → ClassId) (h0 : Nat → Nat) (sz N : Nat)  (s0 : MS) (q : Int32 × MS) (h : fX13_accountCount N s0 = some q) : xM l yX13_accountCount cX13_accountCount 1 (some .int) ({ frames := 1, cells := 0, slots := 0, locals := 21 }) D cA (MW cA h0 s0) sz [.ref (h0 0)] (some (.int q.1)) (MW cA h0 q.2) := by
  generalize erm : ({ frames := 1, cells := 0, slots := 0, locals := 21 } : Room) = rm
  refine xMet (by decide) (Nat.le_of_ble_eq_true rfl) ?_
  intro p e s m below meth c hx hb hr hlocks hml hts hown hin hK hP A eA hD hS hA hsz ls hl
  have hl : lv_has ls 1 [(0, .ref (h0 0))] := hl
  clear eA
  rw [fX13_accountCount] at h
  refine lv_aload_n hx hb dX13_accountCount_0 rfl (lv_at hl 0 rfl) ?_
  refine lv_aload_n hx hb dX13_accountCount_1 rfl (lv_at hl 0 rfl) ?_
  refine va_get (D := D) (ci := 12) (v := .ref (h0 1)) (C := RX13) (T := TX13) (N := 16) hx hb hts iX13 hown hK hP 0 rfl rfl 0 (by decide) (hts _ qfl_X13_7) (fun _ h9 => h9) rfl dX13_accountCount_2 ?_
  refine lv_iconst (v := 1) hx hb dX13_accountCount_5 (by decide) ?_
  refine xIald hx hb hK hP 1 0 rfl rfl (x_lit (k := 1) (by decide)) dX13_accountCount_6 ?_
  obtain ⟨q1, c1, h⟩ := x_call h
  refine xCall (w2 := MW cA h0 q1.2) (xRunV (n := 1) (As := [.int (s0.1 1)]) (rest := []) ⟨hx, hb, hml, hown, hts⟩ (kX13_done l D cA h0 _ N (s0.1 1) s0 q1 c1) qco_X13_done qml_X13_60 qin_X13_done qse_X13_done qini_X13 (by decide +kernel) (by rw [← erm]; rfl) hK hP hD [0, 1, 2, 3, 4, 5, 6, 7] rfl rfl (q0 := 0) rfl rfl rfl rfl rfl hl.1 rfl (lv_room (Nat.le_of_ble_eq_true rfl)) dX13_accountCount_7 ⟨Nat.zero_le _, Nat.zero_le _⟩) hP hD hS hA [0, 1, 2, 3, 4, 5, 6, 7] [] [0, 1, 2, 3, 4, 5, 6, 7] rfl (wr := []) rfl rfl rfl rfl rfl (fun H locs hP hD hS => ?_)
  have h := Option.some.inj h
  subst h
  exact xIret hx hb hr hlocks hP hK hD hS dX13_accountCount_10
def fX13_kind (N : Nat) (a1 : Int32) (s0 : MS) : Option (Int32 × MS) :=
  xcall (fX13_isAccount N a1 s0) fun q1 =>
  xjoin (fun (t0_2 : Int32) (v1_2 : Int32) (s0_2 : MS) =>
      xjoin (fun (t0_3 : Int32) (s0_3 : MS) =>
          xnz (xnar .char t0_3) <|
          some (t0_3, s0_3)
        ) fun J38 =>
      if t0_2 = 0 then
        xrd 229 (9 + v1_2) fun k6 =>
        J38 (((Int32.toUInt32 (s0_2.1 k6)) % 65536).toInt32) ((Ms12 s0_2 t0_2))
      else
        J38 0 ((Ms12 s0_2 t0_2))
    ) fun J14 =>
  if q1 = 0 then
    J14 1 a1 s0
  else
    J14 0 a1 s0
set_option maxRecDepth 100000 in
set_option maxHeartbeats 4000000 in
theorem kX13_kind (l : Launch) (D : va_G) (cA : Nat → ClassId) (h0 : Nat → Nat) (sz N : Nat) (a1 : Int32) (s0 : MS) (q : Int32 × MS) (h : fX13_kind N a1 s0 = some q) : xM l yX13_kind cX13_kind 2 (some .char) ({ frames := 2, cells := 0, slots := 0, locals := 43 }) D cA (MW cA h0 s0) sz [.ref (h0 0), .int a1] (some (.int q.1)) (MW cA h0 q.2) := by
  generalize erm : ({ frames := 2, cells := 0, slots := 0, locals := 43 } : Room) = rm
  refine xMet (by decide) (Nat.le_of_ble_eq_true rfl) ?_
  intro p e s m below meth c hx hb hr hlocks hml hts hown hin hK hP A eA hD hS hA hsz ls hl
  have hl : lv_has ls 2 [(0, .ref (h0 0)), (1, .int a1)] := hl
  clear eA
  rw [fX13_kind] at h
  refine lv_aload_n hx hb dX13_kind_0 rfl (lv_at hl 0 rfl) ?_
  refine lv_aload_n hx hb dX13_kind_1 rfl (lv_at hl 0 rfl) ?_
  refine lv_iload_n hx hb dX13_kind_2 rfl (lv_at hl 1 rfl) ?_
  obtain ⟨q1, c1, h⟩ := x_call h
  refine xCall (w2 := MW cA h0 s0) (xRunV (n := 1) (As := [.int a1]) (rest := [.ref (h0 0)]) ⟨hx, hb, hml, hown, hts⟩ (kX13_isAccount l D cA h0 _ N a1 s0 q1 c1) qco_X13_isAccount qml_X13_77 qin_X13_isAccount qse_X13_isAccount qini_X13 (by decide +kernel) (by rw [← erm]; rfl) hK hP hD [0, 1, 2, 3, 4, 5, 6, 7] rfl rfl (q0 := 0) rfl rfl rfl rfl rfl hl.1 rfl (lv_room (Nat.le_of_ble_eq_true rfl)) dX13_kind_3 ⟨Nat.zero_le _, Nat.zero_le _⟩) hP hD hS hA [0, 1, 2, 3, 4, 5, 6, 7] [] [0, 1, 2, 3, 4, 5, 6, 7] rfl (wr := []) rfl rfl rfl rfl rfl (fun H locs hP hD hS => ?_)
  obtain ⟨J14, eJ14, h⟩ := x_join h
  have hJ_J14 : ∀ (t0_2 : Int32) (v1_2 : Int32) (s0_2 : MS) (H : Heap) (locs : List Loc), va_P D vwCl (MW cA h0 s0_2) H → va_D A (MW cA h0 s0_2) → va_S A s.heap H locs → ∀ ls : Array Slot, lv_has ls 2 [(0, .ref (h0 0)), (1, .int v1_2)] → J14 t0_2 v1_2 s0_2 = some q → W p l e rm s m ([.ref (h0 0), .int a1] : List Value).toArray below meth c H locs 0 0 (MQ below (xQ D cA A (MW cA h0 q.2) (some (.int q.1))) ([.ref (h0 0), .int a1] : List Value).toArray s 0 0 A) (F0 m 14 ls [.int t0_2, .ref (h0 0)]) := by
    clear h hP hD hS hl
    intro t0_2 v1_2 s0_2 H locs hP hD hS ls hl h
    rw [eJ14] at h
    refine va_put (D := D) (ci := 12) (v := .int t0_2) (ty := .int) (C := RX13) (T := TX13) (N := 16) hx hb hts iX13 tyX13 tyX13_ok nmX13 hown hK hP hD hS 0 rfl rfl 12 (by decide) (hts _ qfl_X13_39) (fun _ h9 => h9) rfl (by decide +kernel) rfl rfl (Nat.le_of_ble_eq_true rfl) dX13_kind_14 (fun H locs hP hD hS => ?_)
    have hP : va_P D vwCl (MW cA h0 ((Ms12 s0_2 t0_2))) H := hP
    have hD : va_D A (MW cA h0 ((Ms12 s0_2 t0_2))) := hD
    refine lv_aload_n hx hb dX13_kind_17 rfl (lv_at hl 0 rfl) ?_
    refine va_get (D := D) (ci := 12) (v := .int t0_2) (C := RX13) (T := TX13) (N := 16) hx hb hts iX13 hown hK hP 0 rfl rfl 12 (by decide) (hts _ qfl_X13_39) (fun _ h9 => h9) rfl dX13_kind_18 ?_
    obtain ⟨J38, eJ38, h⟩ := x_join h
    have hJ_J38 : ∀ (t0_3 : Int32) (s0_3 : MS) (H : Heap) (locs : List Loc), va_P D vwCl (MW cA h0 s0_3) H → va_D A (MW cA h0 s0_3) → va_S A s.heap H locs → ∀ ls : Array Slot, lv_has ls 2 [] → J38 t0_3 s0_3 = some q → W p l e rm s m ([.ref (h0 0), .int a1] : List Value).toArray below meth c H locs 0 0 (MQ below (xQ D cA A (MW cA h0 q.2) (some (.int q.1))) ([.ref (h0 0), .int a1] : List Value).toArray s 0 0 A) (F0 m 38 ls [.int t0_3]) := by
      clear h hP hD hS hl
      intro t0_3 s0_3 H locs hP hD hS ls hl h
      rw [eJ38] at h
      obtain ⟨z4, h⟩ := x_nz h
      have h := Option.some.inj h
      subst h
      exact xZret hx hb hr hlocks (xnar_n z4) hP hK hD hS dX13_kind_38
    refine lv_if_ne (tgt := 37) hx hb dX13_kind_21 (by decide) (fun c5 => ?_) (fun c5 => ?_)
    · have h := x_f h c5
      refine lv_iconst (v := 0) hx hb dX13_kind_37 (by decide) ?_
      exact hJ_J38 0 ((Ms12 s0_2 t0_2)) _ _ hP hD hS _ (lv_sub hl [] rfl) h
    · have h := x_t h c5
      refine lv_aload_n hx hb dX13_kind_24 rfl (lv_at hl 0 rfl) ?_
      refine va_get (D := D) (ci := 12) (v := .ref (h0 1)) (C := RX13) (T := TX13) (N := 16) hx hb hts iX13 hown hK hP 0 rfl rfl 0 (by decide) (hts _ qfl_X13_7) (fun _ h9 => h9) rfl dX13_kind_25 ?_
      refine lv_bipush (v := 9) hx hb dX13_kind_28 (by decide) ?_
      refine lv_iload_n hx hb dX13_kind_30 rfl (lv_at hl 1 rfl) ?_
      refine lv_iadd hx hb dX13_kind_31 ?_
      obtain ⟨k6, hk6, h⟩ := x_rd h
      refine xIald hx hb hK hP 1 0 rfl rfl hk6 dX13_kind_32 ?_
      refine lv_i2c hx hb dX13_kind_33 rfl ?_
      refine lv_goto (tgt := 38) hx hb dX13_kind_34 (by decide) ?_
      exact hJ_J38 (((Int32.toUInt32 (s0_2.1 k6)) % 65536).toInt32) ((Ms12 s0_2 t0_2)) _ _ hP hD hS _ (lv_sub hl [] rfl) h
  refine lv_if_eq (tgt := 13) hx hb dX13_kind_6 (by decide) (fun c7 => ?_) (fun c7 => ?_)
  · have h := x_t h c7
    refine lv_iconst (v := 1) hx hb dX13_kind_13 (by decide) ?_
    exact hJ_J14 1 a1 s0 _ _ hP hD hS _ (lv_sub hl [0, 1] rfl) h
  · have h := x_f h c7
    refine lv_iconst (v := 0) hx hb dX13_kind_9 (by decide) ?_
    refine lv_goto (tgt := 14) hx hb dX13_kind_10 (by decide) ?_
    exact hJ_J14 0 a1 s0 _ _ hP hD hS _ (lv_sub hl [0, 1] rfl) h
def fX13_parent (N : Nat) (a1 : Int32) (s0 : MS) : Option (Int32 × MS) :=
  xcall (fX13_isAccount N a1 s0) fun q1 =>
  if q1 = 0 then
    xcall (fX13_fails N 1 s0) fun q9 =>
    some (q9.1, q9.2)
  else
    xrd 229 (21 + a1) fun k3 =>
    xjoin (fun (t0_4 : Int32) (s0_4 : MS) =>
        some (t0_4, s0_4)
      ) fun J49 =>
    if (s0.1 k3) = 0 then
      xcall (fX13_fails N 2 s0) fun q8 =>
      J49 q8.1 q8.2
    else
      xrd 229 (21 + a1) fun k6 =>
      xcall (fX13_done N ((s0.1 k6) - 1) s0) fun q7 =>
      J49 q7.1 q7.2
set_option maxRecDepth 100000 in
set_option maxHeartbeats 4000000 in
theorem kX13_parent (l : Launch) (D : va_G) (cA : Nat → ClassId) (h0 : Nat → Nat) (sz N : Nat) (a1 : Int32) (s0 : MS) (q : Int32 × MS) (h : fX13_parent N a1 s0 = some q) : xM l yX13_parent cX13_parent 2 (some .int) ({ frames := 2, cells := 0, slots := 0, locals := 43 }) D cA (MW cA h0 s0) sz [.ref (h0 0), .int a1] (some (.int q.1)) (MW cA h0 q.2) := by
  generalize erm : ({ frames := 2, cells := 0, slots := 0, locals := 43 } : Room) = rm
  refine xMet (by decide) (Nat.le_of_ble_eq_true rfl) ?_
  intro p e s m below meth c hx hb hr hlocks hml hts hown hin hK hP A eA hD hS hA hsz ls hl
  have hl : lv_has ls 2 [(0, .ref (h0 0)), (1, .int a1)] := hl
  clear eA
  rw [fX13_parent] at h
  refine lv_aload_n hx hb dX13_parent_0 rfl (lv_at hl 0 rfl) ?_
  refine lv_iload_n hx hb dX13_parent_1 rfl (lv_at hl 1 rfl) ?_
  obtain ⟨q1, c1, h⟩ := x_call h
  refine xCall (w2 := MW cA h0 s0) (xRunV (n := 1) (As := [.int a1]) (rest := []) ⟨hx, hb, hml, hown, hts⟩ (kX13_isAccount l D cA h0 _ N a1 s0 q1 c1) qco_X13_isAccount qml_X13_77 qin_X13_isAccount qse_X13_isAccount qini_X13 (by decide +kernel) (by rw [← erm]; rfl) hK hP hD [0, 1, 2, 3, 4, 5, 6, 7] rfl rfl (q0 := 0) rfl rfl rfl rfl rfl hl.1 rfl (lv_room (Nat.le_of_ble_eq_true rfl)) dX13_parent_2 ⟨Nat.zero_le _, Nat.zero_le _⟩) hP hD hS hA [0, 1, 2, 3, 4, 5, 6, 7] [] [0, 1, 2, 3, 4, 5, 6, 7] rfl (wr := []) rfl rfl rfl rfl rfl (fun H locs hP hD hS => ?_)
  refine lv_if_ne (tgt := 14) hx hb dX13_parent_5 (by decide) (fun c2 => ?_) (fun c2 => ?_)
  · have h := x_f h c2
    refine lv_aload_n hx hb dX13_parent_14 rfl (lv_at hl 0 rfl) ?_
    refine va_get (D := D) (ci := 12) (v := .ref (h0 1)) (C := RX13) (T := TX13) (N := 16) hx hb hts iX13 hown hK hP 0 rfl rfl 0 (by decide) (hts _ qfl_X13_7) (fun _ h9 => h9) rfl dX13_parent_15 ?_
    refine lv_bipush (v := 21) hx hb dX13_parent_18 (by decide) ?_
    refine lv_iload_n hx hb dX13_parent_20 rfl (lv_at hl 1 rfl) ?_
    refine lv_iadd hx hb dX13_parent_21 ?_
    obtain ⟨k3, hk3, h⟩ := x_rd h
    refine xIald hx hb hK hP 1 0 rfl rfl hk3 dX13_parent_22 ?_
    obtain ⟨J49, eJ49, h⟩ := x_join h
    have hJ_J49 : ∀ (t0_4 : Int32) (s0_4 : MS) (H : Heap) (locs : List Loc), va_P D vwCl (MW cA h0 s0_4) H → va_D A (MW cA h0 s0_4) → va_S A s.heap H locs → ∀ ls : Array Slot, lv_has ls 2 [] → J49 t0_4 s0_4 = some q → W p l e rm s m ([.ref (h0 0), .int a1] : List Value).toArray below meth c H locs 0 0 (MQ below (xQ D cA A (MW cA h0 q.2) (some (.int q.1))) ([.ref (h0 0), .int a1] : List Value).toArray s 0 0 A) (F0 m 49 ls [.int t0_4]) := by
      clear h hP hD hS hl
      intro t0_4 s0_4 H locs hP hD hS ls hl h
      rw [eJ49] at h
      have h := Option.some.inj h
      subst h
      exact xIret hx hb hr hlocks hP hK hD hS dX13_parent_49
    refine lv_if_ne (tgt := 34) hx hb dX13_parent_23 (by decide) (fun c5 => ?_) (fun c5 => ?_)
    · have h := x_f h c5
      refine lv_aload_n hx hb dX13_parent_34 rfl (lv_at hl 0 rfl) ?_
      refine lv_aload_n hx hb dX13_parent_35 rfl (lv_at hl 0 rfl) ?_
      refine va_get (D := D) (ci := 12) (v := .ref (h0 1)) (C := RX13) (T := TX13) (N := 16) hx hb hts iX13 hown hK hP 0 rfl rfl 0 (by decide) (hts _ qfl_X13_7) (fun _ h9 => h9) rfl dX13_parent_36 ?_
      refine lv_bipush (v := 21) hx hb dX13_parent_39 (by decide) ?_
      refine lv_iload_n hx hb dX13_parent_41 rfl (lv_at hl 1 rfl) ?_
      refine lv_iadd hx hb dX13_parent_42 ?_
      obtain ⟨k6, hk6, h⟩ := x_rd h
      refine xIald hx hb hK hP 1 0 rfl rfl hk6 dX13_parent_43 ?_
      refine lv_iconst (v := 1) hx hb dX13_parent_44 (by decide) ?_
      refine lv_isub hx hb dX13_parent_45 ?_
      obtain ⟨q7, c7, h⟩ := x_call h
      refine xCall (w2 := MW cA h0 q7.2) (xRunV (n := 1) (As := [.int ((s0.1 k6) - 1)]) (rest := []) ⟨hx, hb, hml, hown, hts⟩ (kX13_done l D cA h0 _ N ((s0.1 k6) - 1) s0 q7 c7) qco_X13_done qml_X13_60 qin_X13_done qse_X13_done qini_X13 (by decide +kernel) (by rw [← erm]; rfl) hK hP hD [0, 1, 2, 3, 4, 5, 6, 7] rfl rfl (q0 := 0) rfl rfl rfl rfl rfl hl.1 rfl (lv_room (Nat.le_of_ble_eq_true rfl)) dX13_parent_46 ⟨Nat.zero_le _, Nat.zero_le _⟩) hP hD hS hA [0, 1, 2, 3, 4, 5, 6, 7] [] [0, 1, 2, 3, 4, 5, 6, 7] rfl (wr := []) rfl rfl rfl rfl rfl (fun H locs hP hD hS => ?_)
      exact hJ_J49 q7.1 q7.2 _ _ hP hD hS _ (lv_sub hl [] rfl) h
    · have h := x_t h c5
      refine lv_aload_n hx hb dX13_parent_26 rfl (lv_at hl 0 rfl) ?_
      refine lv_iconst (v := 2) hx hb dX13_parent_27 (by decide) ?_
      obtain ⟨q8, c8, h⟩ := x_call h
      refine xCall (w2 := MW cA h0 q8.2) (xRunV (n := 1) (As := [.int 2]) (rest := []) ⟨hx, hb, hml, hown, hts⟩ (kX13_fails l D cA h0 _ N 2 s0 q8 c8) qco_X13_fails qml_X13_57 qin_X13_fails qse_X13_fails qini_X13 (by decide +kernel) (by rw [← erm]; rfl) hK hP hD [0, 1, 2, 3, 4, 5, 6, 7] rfl rfl (q0 := 0) rfl rfl rfl rfl rfl hl.1 rfl (lv_room (Nat.le_of_ble_eq_true rfl)) dX13_parent_28 ⟨Nat.zero_le _, Nat.zero_le _⟩) hP hD hS hA [0, 1, 2, 3, 4, 5, 6, 7] [] [0, 1, 2, 3, 4, 5, 6, 7] rfl (wr := []) rfl rfl rfl rfl rfl (fun H locs hP hD hS => ?_)
      refine lv_goto (tgt := 49) hx hb dX13_parent_31 (by decide) ?_
      exact hJ_J49 q8.1 q8.2 _ _ hP hD hS _ (lv_sub hl [] rfl) h
  · have h := x_t h c2
    refine lv_aload_n hx hb dX13_parent_8 rfl (lv_at hl 0 rfl) ?_
    refine lv_iconst (v := 1) hx hb dX13_parent_9 (by decide) ?_
    obtain ⟨q9, c9, h⟩ := x_call h
    refine xCall (w2 := MW cA h0 q9.2) (xRunV (n := 1) (As := [.int 1]) (rest := []) ⟨hx, hb, hml, hown, hts⟩ (kX13_fails l D cA h0 _ N 1 s0 q9 c9) qco_X13_fails qml_X13_57 qin_X13_fails qse_X13_fails qini_X13 (by decide +kernel) (by rw [← erm]; rfl) hK hP hD [0, 1, 2, 3, 4, 5, 6, 7] rfl rfl (q0 := 0) rfl rfl rfl rfl rfl hl.1 rfl (lv_room (Nat.le_of_ble_eq_true rfl)) dX13_parent_10 ⟨Nat.zero_le _, Nat.zero_le _⟩) hP hD hS hA [0, 1, 2, 3, 4, 5, 6, 7] [] [0, 1, 2, 3, 4, 5, 6, 7] rfl (wr := []) rfl rfl rfl rfl rfl (fun H locs hP hD hS => ?_)
    have h := Option.some.inj h
    subst h
    exact xIret hx hb hr hlocks hP hK hD hS dX13_parent_13
def fX13_debits (N : Nat) (a1 : Int32) (s0 : MS) : Option (Int64 × MS) :=
  xcall (fX13_isAccount N a1 s0) fun q1 =>
  xjoin (fun (t0_2 : Int64) (s0_2 : MS) =>
      some (t0_2, s0_2)
    ) fun J31 =>
  if q1 = 0 then
    xcall (fX13_fails N 1 s0) fun q4 =>
    J31 (q4.1.toInt64) q4.2
  else
    xrd 229 (33 + a1) fun k5 =>
    xcall (fX13_done N (s0.1 k5) s0) fun q6 =>
    J31 (q6.1.toInt64) q6.2
set_option maxRecDepth 100000 in
set_option maxHeartbeats 4000000 in
theorem kX13_debits (l : Launch) (D : va_G) (cA : Nat → ClassId) (h0 : Nat → Nat) (sz N : Nat) (a1 : Int32) (s0 : MS) (q : Int64 × MS) (h : fX13_debits N a1 s0 = some q) : xM l yX13_debits cX13_debits 2 (some .long) ({ frames := 2, cells := 0, slots := 0, locals := 43 }) D cA (MW cA h0 s0) sz [.ref (h0 0), .int a1] (some (.long q.1)) (MW cA h0 q.2) := by
  generalize erm : ({ frames := 2, cells := 0, slots := 0, locals := 43 } : Room) = rm
  refine xMet (by decide) (Nat.le_of_ble_eq_true rfl) ?_
  intro p e s m below meth c hx hb hr hlocks hml hts hown hin hK hP A eA hD hS hA hsz ls hl
  have hl : lv_has ls 2 [(0, .ref (h0 0)), (1, .int a1)] := hl
  clear eA
  rw [fX13_debits] at h
  refine lv_aload_n hx hb dX13_debits_0 rfl (lv_at hl 0 rfl) ?_
  refine lv_iload_n hx hb dX13_debits_1 rfl (lv_at hl 1 rfl) ?_
  obtain ⟨q1, c1, h⟩ := x_call h
  refine xCall (w2 := MW cA h0 s0) (xRunV (n := 1) (As := [.int a1]) (rest := []) ⟨hx, hb, hml, hown, hts⟩ (kX13_isAccount l D cA h0 _ N a1 s0 q1 c1) qco_X13_isAccount qml_X13_77 qin_X13_isAccount qse_X13_isAccount qini_X13 (by decide +kernel) (by rw [← erm]; rfl) hK hP hD [0, 1, 2, 3, 4, 5, 6, 7] rfl rfl (q0 := 0) rfl rfl rfl rfl rfl hl.1 rfl (lv_room (Nat.le_of_ble_eq_true rfl)) dX13_debits_2 ⟨Nat.zero_le _, Nat.zero_le _⟩) hP hD hS hA [0, 1, 2, 3, 4, 5, 6, 7] [] [0, 1, 2, 3, 4, 5, 6, 7] rfl (wr := []) rfl rfl rfl rfl rfl (fun H locs hP hD hS => ?_)
  obtain ⟨J31, eJ31, h⟩ := x_join h
  have hJ_J31 : ∀ (t0_2 : Int64) (s0_2 : MS) (H : Heap) (locs : List Loc), va_P D vwCl (MW cA h0 s0_2) H → va_D A (MW cA h0 s0_2) → va_S A s.heap H locs → ∀ ls : Array Slot, lv_has ls 2 [] → J31 t0_2 s0_2 = some q → W p l e rm s m ([.ref (h0 0), .int a1] : List Value).toArray below meth c H locs 0 0 (MQ below (xQ D cA A (MW cA h0 q.2) (some (.long q.1))) ([.ref (h0 0), .int a1] : List Value).toArray s 0 0 A) (F0 m 31 ls [.long t0_2]) := by
    clear h hP hD hS hl
    intro t0_2 s0_2 H locs hP hD hS ls hl h
    rw [eJ31] at h
    have h := Option.some.inj h
    subst h
    exact xLret hx hb hr hlocks hP hK hD hS dX13_debits_31
  refine lv_if_eq (tgt := 25) hx hb dX13_debits_5 (by decide) (fun c3 => ?_) (fun c3 => ?_)
  · have h := x_t h c3
    refine lv_aload_n hx hb dX13_debits_25 rfl (lv_at hl 0 rfl) ?_
    refine lv_iconst (v := 1) hx hb dX13_debits_26 (by decide) ?_
    obtain ⟨q4, c4, h⟩ := x_call h
    refine xCall (w2 := MW cA h0 q4.2) (xRunV (n := 1) (As := [.int 1]) (rest := []) ⟨hx, hb, hml, hown, hts⟩ (kX13_fails l D cA h0 _ N 1 s0 q4 c4) qco_X13_fails qml_X13_57 qin_X13_fails qse_X13_fails qini_X13 (by decide +kernel) (by rw [← erm]; rfl) hK hP hD [0, 1, 2, 3, 4, 5, 6, 7] rfl rfl (q0 := 0) rfl rfl rfl rfl rfl hl.1 rfl (lv_room (Nat.le_of_ble_eq_true rfl)) dX13_debits_27 ⟨Nat.zero_le _, Nat.zero_le _⟩) hP hD hS hA [0, 1, 2, 3, 4, 5, 6, 7] [] [0, 1, 2, 3, 4, 5, 6, 7] rfl (wr := []) rfl rfl rfl rfl rfl (fun H locs hP hD hS => ?_)
    refine lv_i2l hx hb dX13_debits_30 rfl ?_
    exact hJ_J31 (q4.1.toInt64) q4.2 _ _ hP hD hS _ (lv_sub hl [] rfl) h
  · have h := x_f h c3
    refine lv_aload_n hx hb dX13_debits_8 rfl (lv_at hl 0 rfl) ?_
    refine lv_aload_n hx hb dX13_debits_9 rfl (lv_at hl 0 rfl) ?_
    refine va_get (D := D) (ci := 12) (v := .ref (h0 1)) (C := RX13) (T := TX13) (N := 16) hx hb hts iX13 hown hK hP 0 rfl rfl 0 (by decide) (hts _ qfl_X13_7) (fun _ h9 => h9) rfl dX13_debits_10 ?_
    refine lv_bipush (v := 33) hx hb dX13_debits_13 (by decide) ?_
    refine lv_iload_n hx hb dX13_debits_15 rfl (lv_at hl 1 rfl) ?_
    refine lv_iadd hx hb dX13_debits_16 ?_
    obtain ⟨k5, hk5, h⟩ := x_rd h
    refine xIald hx hb hK hP 1 0 rfl rfl hk5 dX13_debits_17 ?_
    obtain ⟨q6, c6, h⟩ := x_call h
    refine xCall (w2 := MW cA h0 q6.2) (xRunV (n := 1) (As := [.int (s0.1 k5)]) (rest := []) ⟨hx, hb, hml, hown, hts⟩ (kX13_done l D cA h0 _ N (s0.1 k5) s0 q6 c6) qco_X13_done qml_X13_60 qin_X13_done qse_X13_done qini_X13 (by decide +kernel) (by rw [← erm]; rfl) hK hP hD [0, 1, 2, 3, 4, 5, 6, 7] rfl rfl (q0 := 0) rfl rfl rfl rfl rfl hl.1 rfl (lv_room (Nat.le_of_ble_eq_true rfl)) dX13_debits_18 ⟨Nat.zero_le _, Nat.zero_le _⟩) hP hD hS hA [0, 1, 2, 3, 4, 5, 6, 7] [] [0, 1, 2, 3, 4, 5, 6, 7] rfl (wr := []) rfl rfl rfl rfl rfl (fun H locs hP hD hS => ?_)
    refine lv_i2l hx hb dX13_debits_21 rfl ?_
    refine lv_goto (tgt := 31) hx hb dX13_debits_22 (by decide) ?_
    exact hJ_J31 (q6.1.toInt64) q6.2 _ _ hP hD hS _ (lv_sub hl [] rfl) h
def fX13_credits (N : Nat) (a1 : Int32) (s0 : MS) : Option (Int64 × MS) :=
  xcall (fX13_isAccount N a1 s0) fun q1 =>
  xjoin (fun (t0_2 : Int64) (s0_2 : MS) =>
      some (t0_2, s0_2)
    ) fun J31 =>
  if q1 = 0 then
    xcall (fX13_fails N 1 s0) fun q4 =>
    J31 (q4.1.toInt64) q4.2
  else
    xrd 229 (45 + a1) fun k5 =>
    xcall (fX13_done N (s0.1 k5) s0) fun q6 =>
    J31 (q6.1.toInt64) q6.2
set_option maxRecDepth 100000 in
set_option maxHeartbeats 4000000 in
theorem kX13_credits (l : Launch) (D : va_G) (cA : Nat → ClassId) (h0 : Nat → Nat) (sz N : Nat) (a1 : Int32) (s0 : MS) (q : Int64 × MS) (h : fX13_credits N a1 s0 = some q) : xM l yX13_credits cX13_credits 2 (some .long) ({ frames := 2, cells := 0, slots := 0, locals := 43 }) D cA (MW cA h0 s0) sz [.ref (h0 0), .int a1] (some (.long q.1)) (MW cA h0 q.2) := by
  generalize erm : ({ frames := 2, cells := 0, slots := 0, locals := 43 } : Room) = rm
  refine xMet (by decide) (Nat.le_of_ble_eq_true rfl) ?_
  intro p e s m below meth c hx hb hr hlocks hml hts hown hin hK hP A eA hD hS hA hsz ls hl
  have hl : lv_has ls 2 [(0, .ref (h0 0)), (1, .int a1)] := hl
  clear eA
  rw [fX13_credits] at h
  refine lv_aload_n hx hb dX13_credits_0 rfl (lv_at hl 0 rfl) ?_
  refine lv_iload_n hx hb dX13_credits_1 rfl (lv_at hl 1 rfl) ?_
  obtain ⟨q1, c1, h⟩ := x_call h
  refine xCall (w2 := MW cA h0 s0) (xRunV (n := 1) (As := [.int a1]) (rest := []) ⟨hx, hb, hml, hown, hts⟩ (kX13_isAccount l D cA h0 _ N a1 s0 q1 c1) qco_X13_isAccount qml_X13_77 qin_X13_isAccount qse_X13_isAccount qini_X13 (by decide +kernel) (by rw [← erm]; rfl) hK hP hD [0, 1, 2, 3, 4, 5, 6, 7] rfl rfl (q0 := 0) rfl rfl rfl rfl rfl hl.1 rfl (lv_room (Nat.le_of_ble_eq_true rfl)) dX13_credits_2 ⟨Nat.zero_le _, Nat.zero_le _⟩) hP hD hS hA [0, 1, 2, 3, 4, 5, 6, 7] [] [0, 1, 2, 3, 4, 5, 6, 7] rfl (wr := []) rfl rfl rfl rfl rfl (fun H locs hP hD hS => ?_)
  obtain ⟨J31, eJ31, h⟩ := x_join h
  have hJ_J31 : ∀ (t0_2 : Int64) (s0_2 : MS) (H : Heap) (locs : List Loc), va_P D vwCl (MW cA h0 s0_2) H → va_D A (MW cA h0 s0_2) → va_S A s.heap H locs → ∀ ls : Array Slot, lv_has ls 2 [] → J31 t0_2 s0_2 = some q → W p l e rm s m ([.ref (h0 0), .int a1] : List Value).toArray below meth c H locs 0 0 (MQ below (xQ D cA A (MW cA h0 q.2) (some (.long q.1))) ([.ref (h0 0), .int a1] : List Value).toArray s 0 0 A) (F0 m 31 ls [.long t0_2]) := by
    clear h hP hD hS hl
    intro t0_2 s0_2 H locs hP hD hS ls hl h
    rw [eJ31] at h
    have h := Option.some.inj h
    subst h
    exact xLret hx hb hr hlocks hP hK hD hS dX13_credits_31
  refine lv_if_eq (tgt := 25) hx hb dX13_credits_5 (by decide) (fun c3 => ?_) (fun c3 => ?_)
  · have h := x_t h c3
    refine lv_aload_n hx hb dX13_credits_25 rfl (lv_at hl 0 rfl) ?_
    refine lv_iconst (v := 1) hx hb dX13_credits_26 (by decide) ?_
    obtain ⟨q4, c4, h⟩ := x_call h
    refine xCall (w2 := MW cA h0 q4.2) (xRunV (n := 1) (As := [.int 1]) (rest := []) ⟨hx, hb, hml, hown, hts⟩ (kX13_fails l D cA h0 _ N 1 s0 q4 c4) qco_X13_fails qml_X13_57 qin_X13_fails qse_X13_fails qini_X13 (by decide +kernel) (by rw [← erm]; rfl) hK hP hD [0, 1, 2, 3, 4, 5, 6, 7] rfl rfl (q0 := 0) rfl rfl rfl rfl rfl hl.1 rfl (lv_room (Nat.le_of_ble_eq_true rfl)) dX13_credits_27 ⟨Nat.zero_le _, Nat.zero_le _⟩) hP hD hS hA [0, 1, 2, 3, 4, 5, 6, 7] [] [0, 1, 2, 3, 4, 5, 6, 7] rfl (wr := []) rfl rfl rfl rfl rfl (fun H locs hP hD hS => ?_)
    refine lv_i2l hx hb dX13_credits_30 rfl ?_
    exact hJ_J31 (q4.1.toInt64) q4.2 _ _ hP hD hS _ (lv_sub hl [] rfl) h
  · have h := x_f h c3
    refine lv_aload_n hx hb dX13_credits_8 rfl (lv_at hl 0 rfl) ?_
    refine lv_aload_n hx hb dX13_credits_9 rfl (lv_at hl 0 rfl) ?_
    refine va_get (D := D) (ci := 12) (v := .ref (h0 1)) (C := RX13) (T := TX13) (N := 16) hx hb hts iX13 hown hK hP 0 rfl rfl 0 (by decide) (hts _ qfl_X13_7) (fun _ h9 => h9) rfl dX13_credits_10 ?_
    refine lv_bipush (v := 45) hx hb dX13_credits_13 (by decide) ?_
    refine lv_iload_n hx hb dX13_credits_15 rfl (lv_at hl 1 rfl) ?_
    refine lv_iadd hx hb dX13_credits_16 ?_
    obtain ⟨k5, hk5, h⟩ := x_rd h
    refine xIald hx hb hK hP 1 0 rfl rfl hk5 dX13_credits_17 ?_
    obtain ⟨q6, c6, h⟩ := x_call h
    refine xCall (w2 := MW cA h0 q6.2) (xRunV (n := 1) (As := [.int (s0.1 k5)]) (rest := []) ⟨hx, hb, hml, hown, hts⟩ (kX13_done l D cA h0 _ N (s0.1 k5) s0 q6 c6) qco_X13_done qml_X13_60 qin_X13_done qse_X13_done qini_X13 (by decide +kernel) (by rw [← erm]; rfl) hK hP hD [0, 1, 2, 3, 4, 5, 6, 7] rfl rfl (q0 := 0) rfl rfl rfl rfl rfl hl.1 rfl (lv_room (Nat.le_of_ble_eq_true rfl)) dX13_credits_18 ⟨Nat.zero_le _, Nat.zero_le _⟩) hP hD hS hA [0, 1, 2, 3, 4, 5, 6, 7] [] [0, 1, 2, 3, 4, 5, 6, 7] rfl (wr := []) rfl rfl rfl rfl rfl (fun H locs hP hD hS => ?_)
    refine lv_i2l hx hb dX13_credits_21 rfl ?_
    refine lv_goto (tgt := 31) hx hb dX13_credits_22 (by decide) ?_
    exact hJ_J31 (q6.1.toInt64) q6.2 _ _ hP hD hS _ (lv_sub hl [] rfl) h
def fX13_balance (N : Nat) (a1 : Int32) (s0 : MS) : Option (Int64 × MS) :=
  xcall (fX13_isAccount N a1 s0) fun q1 =>
  xjoin (fun (t0_2 : Int64) (s0_2 : MS) =>
      some (t0_2, s0_2)
    ) fun J27 =>
  if q1 = 0 then
    xcall (fX13_fails N 1 s0) fun q4 =>
    J27 (q4.1.toInt64) q4.2
  else
    xcall (fX13_balanceOf N a1 s0) fun q5 =>
    xcall (fX13_done N q5 s0) fun q6 =>
    J27 (q6.1.toInt64) q6.2
set_option maxRecDepth 100000 in
set_option maxHeartbeats 4000000 in
theorem kX13_balance (l : Launch) (D : va_G) (cA : Nat → ClassId) (h0 : Nat → Nat) (sz N : Nat) (a1 : Int32) (s0 : MS) (q : Int64 × MS) (h : fX13_balance N a1 s0 = some q) : xM l yX13_balance cX13_balance 2 (some .long) ({ frames := 2, cells := 0, slots := 0, locals := 43 }) D cA (MW cA h0 s0) sz [.ref (h0 0), .int a1] (some (.long q.1)) (MW cA h0 q.2) := by
  generalize erm : ({ frames := 2, cells := 0, slots := 0, locals := 43 } : Room) = rm
  refine xMet (by decide) (Nat.le_of_ble_eq_true rfl) ?_
  intro p e s m below meth c hx hb hr hlocks hml hts hown hin hK hP A eA hD hS hA hsz ls hl
  have hl : lv_has ls 2 [(0, .ref (h0 0)), (1, .int a1)] := hl
  clear eA
  rw [fX13_balance] at h
  refine lv_aload_n hx hb dX13_balance_0 rfl (lv_at hl 0 rfl) ?_
  refine lv_iload_n hx hb dX13_balance_1 rfl (lv_at hl 1 rfl) ?_
  obtain ⟨q1, c1, h⟩ := x_call h
  refine xCall (w2 := MW cA h0 s0) (xRunV (n := 1) (As := [.int a1]) (rest := []) ⟨hx, hb, hml, hown, hts⟩ (kX13_isAccount l D cA h0 _ N a1 s0 q1 c1) qco_X13_isAccount qml_X13_77 qin_X13_isAccount qse_X13_isAccount qini_X13 (by decide +kernel) (by rw [← erm]; rfl) hK hP hD [0, 1, 2, 3, 4, 5, 6, 7] rfl rfl (q0 := 0) rfl rfl rfl rfl rfl hl.1 rfl (lv_room (Nat.le_of_ble_eq_true rfl)) dX13_balance_2 ⟨Nat.zero_le _, Nat.zero_le _⟩) hP hD hS hA [0, 1, 2, 3, 4, 5, 6, 7] [] [0, 1, 2, 3, 4, 5, 6, 7] rfl (wr := []) rfl rfl rfl rfl rfl (fun H locs hP hD hS => ?_)
  obtain ⟨J27, eJ27, h⟩ := x_join h
  have hJ_J27 : ∀ (t0_2 : Int64) (s0_2 : MS) (H : Heap) (locs : List Loc), va_P D vwCl (MW cA h0 s0_2) H → va_D A (MW cA h0 s0_2) → va_S A s.heap H locs → ∀ ls : Array Slot, lv_has ls 2 [] → J27 t0_2 s0_2 = some q → W p l e rm s m ([.ref (h0 0), .int a1] : List Value).toArray below meth c H locs 0 0 (MQ below (xQ D cA A (MW cA h0 q.2) (some (.long q.1))) ([.ref (h0 0), .int a1] : List Value).toArray s 0 0 A) (F0 m 27 ls [.long t0_2]) := by
    clear h hP hD hS hl
    intro t0_2 s0_2 H locs hP hD hS ls hl h
    rw [eJ27] at h
    have h := Option.some.inj h
    subst h
    exact xLret hx hb hr hlocks hP hK hD hS dX13_balance_27
  refine lv_if_eq (tgt := 21) hx hb dX13_balance_5 (by decide) (fun c3 => ?_) (fun c3 => ?_)
  · have h := x_t h c3
    refine lv_aload_n hx hb dX13_balance_21 rfl (lv_at hl 0 rfl) ?_
    refine lv_iconst (v := 1) hx hb dX13_balance_22 (by decide) ?_
    obtain ⟨q4, c4, h⟩ := x_call h
    refine xCall (w2 := MW cA h0 q4.2) (xRunV (n := 1) (As := [.int 1]) (rest := []) ⟨hx, hb, hml, hown, hts⟩ (kX13_fails l D cA h0 _ N 1 s0 q4 c4) qco_X13_fails qml_X13_57 qin_X13_fails qse_X13_fails qini_X13 (by decide +kernel) (by rw [← erm]; rfl) hK hP hD [0, 1, 2, 3, 4, 5, 6, 7] rfl rfl (q0 := 0) rfl rfl rfl rfl rfl hl.1 rfl (lv_room (Nat.le_of_ble_eq_true rfl)) dX13_balance_23 ⟨Nat.zero_le _, Nat.zero_le _⟩) hP hD hS hA [0, 1, 2, 3, 4, 5, 6, 7] [] [0, 1, 2, 3, 4, 5, 6, 7] rfl (wr := []) rfl rfl rfl rfl rfl (fun H locs hP hD hS => ?_)
    refine lv_i2l hx hb dX13_balance_26 rfl ?_
    exact hJ_J27 (q4.1.toInt64) q4.2 _ _ hP hD hS _ (lv_sub hl [] rfl) h
  · have h := x_f h c3
    refine lv_aload_n hx hb dX13_balance_8 rfl (lv_at hl 0 rfl) ?_
    refine lv_aload_n hx hb dX13_balance_9 rfl (lv_at hl 0 rfl) ?_
    refine lv_iload_n hx hb dX13_balance_10 rfl (lv_at hl 1 rfl) ?_
    obtain ⟨q5, c5, h⟩ := x_call h
    refine xCall (w2 := MW cA h0 s0) (xRunV (n := 1) (As := [.int a1]) (rest := [.ref (h0 0)]) ⟨hx, hb, hml, hown, hts⟩ (kX13_balanceOf l D cA h0 _ N a1 s0 q5 c5) qco_X13_balanceOf qml_X13_53 qin_X13_balanceOf qse_X13_balanceOf qini_X13 (by decide +kernel) (by rw [← erm]; rfl) hK hP hD [0, 1, 2, 3, 4, 5, 6, 7] rfl rfl (q0 := 0) rfl rfl rfl rfl rfl hl.1 rfl (lv_room (Nat.le_of_ble_eq_true rfl)) dX13_balance_11 ⟨Nat.zero_le _, Nat.zero_le _⟩) hP hD hS hA [0, 1, 2, 3, 4, 5, 6, 7] [] [0, 1, 2, 3, 4, 5, 6, 7] rfl (wr := []) rfl rfl rfl rfl rfl (fun H locs hP hD hS => ?_)
    obtain ⟨q6, c6, h⟩ := x_call h
    refine xCall (w2 := MW cA h0 q6.2) (xRunV (n := 1) (As := [.int q5]) (rest := []) ⟨hx, hb, hml, hown, hts⟩ (kX13_done l D cA h0 _ N q5 s0 q6 c6) qco_X13_done qml_X13_60 qin_X13_done qse_X13_done qini_X13 (by decide +kernel) (by rw [← erm]; rfl) hK hP hD [0, 1, 2, 3, 4, 5, 6, 7] rfl rfl (q0 := 0) rfl rfl rfl rfl rfl hl.1 rfl (lv_room (Nat.le_of_ble_eq_true rfl)) dX13_balance_14 ⟨Nat.zero_le _, Nat.zero_le _⟩) hP hD hS hA [0, 1, 2, 3, 4, 5, 6, 7] [] [0, 1, 2, 3, 4, 5, 6, 7] rfl (wr := []) rfl rfl rfl rfl rfl (fun H locs hP hD hS => ?_)
    refine lv_i2l hx hb dX13_balance_17 rfl ?_
    refine lv_goto (tgt := 27) hx hb dX13_balance_18 (by decide) ?_
    exact hJ_J27 (q6.1.toInt64) q6.2 _ _ hP hD hS _ (lv_sub hl [] rfl) h
def fX13_isBelow_L2 (N : Nat) (s0 : MS) (K34 : Int32 → Int32 → Option (Int32)) : Nat → Int32 → Int32 → Option (Int32)
  | 0, _, _ => none
  | n + 1, v2_5, v3_5 =>
    if v3_5 ≤ v2_5 then
      K34 v2_5 v3_5
    else
      xrd 229 (21 + v3_5) fun k7 =>
      if (s0.1 k7) ≤ 0 then
        K34 v2_5 v3_5
      else
        xrd 229 (21 + v3_5) fun k9 =>
        xlet ((s0.1 k9) - 1) fun x10 =>
        fX13_isBelow_L2 N s0 K34 n v2_5 x10
def fX13_isBelow (N : Nat) (a1 : Int32) (a2 : Int32) (s0 : MS) : Option (Int32) :=
  xjoin (fun (v2_1 : Int32) (v3_1 : Int32) =>
      xjoin (fun (t0_2 : Int32) =>
          xnz (xnar .boolean t0_2) <|
          some t0_2
        ) fun J44 =>
      if v3_1 = v2_1 then
        J44 1
      else
        J44 0
    ) fun K34 =>
  fX13_isBelow_L2 N s0 K34 N a2 a1
set_option maxRecDepth 100000 in
set_option maxHeartbeats 4000000 in
theorem kX13_isBelow (l : Launch) (D : va_G) (cA : Nat → ClassId) (h0 : Nat → Nat) (sz N : Nat) (a1 : Int32) (a2 : Int32) (s0 : MS) (q : Int32) (h : fX13_isBelow N a1 a2 s0 = some q) : xM l yX13_isBelow cX13_isBelow 4 (some .boolean) ({ frames := 0, cells := 0, slots := 0, locals := 0 }) D cA (MW cA h0 s0) sz [.ref (h0 0), .int a1, .int a2] (some (.int q)) (MW cA h0 s0) := by
  generalize erm : ({ frames := 0, cells := 0, slots := 0, locals := 0 } : Room) = rm
  refine xMet (by decide) (Nat.le_of_ble_eq_true rfl) ?_
  intro p e s m below meth c hx hb hr hlocks hml hts hown hin hK hP A eA hD hS hA hsz ls hl
  have hl : lv_has ls 4 [(0, .ref (h0 0)), (1, .int a1), (2, .int a2)] := hl
  clear eA
  rw [fX13_isBelow] at h
  refine lv_iload_n hx hb dX13_isBelow_0 rfl (lv_at hl 1 rfl) ?_
  refine lv_istore_n (lv' := [(3, .int a1), (0, .ref (h0 0)), (1, .int a1), (2, .int a2)]) hx hb dX13_isBelow_1 rfl hl (by decide) rfl (fun ls hl => ?_)
  obtain ⟨K34, eK34, h⟩ := x_join h
  have hJ_K34 : ∀ (v2_1 : Int32) (v3_1 : Int32) (H : Heap) (locs : List Loc), va_P D vwCl (MW cA h0 s0) H → va_D A (MW cA h0 s0) → va_S A s.heap H locs → ∀ ls : Array Slot, lv_has ls 4 [(2, .int v2_1), (3, .int v3_1)] → K34 v2_1 v3_1 = some q → W p l e rm s m ([.ref (h0 0), .int a1, .int a2] : List Value).toArray below meth c H locs 0 0 (MQ below (xQ D cA A (MW cA h0 s0) (some (.int q))) ([.ref (h0 0), .int a1, .int a2] : List Value).toArray s 0 0 A) (F0 m 34 ls []) := by
    clear h hP hD hS hl
    intro v2_1 v3_1 H locs hP hD hS ls hl h
    rw [eK34] at h
    refine lv_iload_n hx hb dX13_isBelow_34 rfl (lv_at hl 1 rfl) ?_
    refine lv_iload_n hx hb dX13_isBelow_35 rfl (lv_at hl 0 rfl) ?_
    obtain ⟨J44, eJ44, h⟩ := x_join h
    have hJ_J44 : ∀ (t0_2 : Int32) (H : Heap) (locs : List Loc), va_P D vwCl (MW cA h0 s0) H → va_D A (MW cA h0 s0) → va_S A s.heap H locs → ∀ ls : Array Slot, lv_has ls 4 [] → J44 t0_2 = some q → W p l e rm s m ([.ref (h0 0), .int a1, .int a2] : List Value).toArray below meth c H locs 0 0 (MQ below (xQ D cA A (MW cA h0 s0) (some (.int q))) ([.ref (h0 0), .int a1, .int a2] : List Value).toArray s 0 0 A) (F0 m 44 ls [.int t0_2]) := by
      clear h hP hD hS hl
      intro t0_2 H locs hP hD hS ls hl h
      rw [eJ44] at h
      obtain ⟨z3, h⟩ := x_nz h
      have h := Option.some.inj h
      subst h
      exact xZret hx hb hr hlocks (xnar_n z3) hP hK hD hS dX13_isBelow_44
    refine lv_icmp_ne (tgt := 43) hx hb dX13_isBelow_36 (by decide) (fun c4 => ?_) (fun c4 => ?_)
    · have h := x_f h c4
      refine lv_iconst (v := 0) hx hb dX13_isBelow_43 (by decide) ?_
      exact hJ_J44 0 _ _ hP hD hS _ (lv_sub hl [] rfl) h
    · have h := x_t h c4
      refine lv_iconst (v := 1) hx hb dX13_isBelow_39 (by decide) ?_
      refine lv_goto (tgt := 44) hx hb dX13_isBelow_40 (by decide) ?_
      exact hJ_J44 1 _ _ hP hD hS _ (lv_sub hl [] rfl) h
  have hL2 : ∀ (n : Nat) (v2_5 : Int32) (v3_5 : Int32) (H : Heap) (locs : List Loc), va_P D vwCl (MW cA h0 s0) H → va_D A (MW cA h0 s0) → va_S A s.heap H locs → ∀ ls : Array Slot, lv_has ls 4 [(0, .ref (h0 0)), (2, .int v2_5), (3, .int v3_5)] → fX13_isBelow_L2 N s0 K34 n v2_5 v3_5 = some q → W p l e rm s m ([.ref (h0 0), .int a1, .int a2] : List Value).toArray below meth c H locs 0 0 (MQ below (xQ D cA A (MW cA h0 s0) (some (.int q))) ([.ref (h0 0), .int a1, .int a2] : List Value).toArray s 0 0 A) (F0 m 2 ls []) := by
    clear h hP hD hS hl
    intro n
    induction n with
    | zero => intro v2_5 v3_5 H locs hP hD hS ls hl h; rw [fX13_isBelow_L2] at h; cases h
    | succ n ih =>
      intro v2_5 v3_5 H locs hP hD hS ls hl h
      rw [fX13_isBelow_L2] at h
      refine lv_iload_n hx hb dX13_isBelow_2 rfl (lv_at hl 2 rfl) ?_
      refine lv_iload_n hx hb dX13_isBelow_3 rfl (lv_at hl 1 rfl) ?_
      refine lv_icmp_le (tgt := 34) hx hb dX13_isBelow_4 (by decide) (fun c6 => ?_) (fun c6 => ?_)
      · have h := x_t h c6
        exact hJ_K34 v2_5 v3_5 _ _ hP hD hS _ (lv_sub hl [1, 2] rfl) h
      · have h := x_f h c6
        refine lv_aload_n hx hb dX13_isBelow_7 rfl (lv_at hl 0 rfl) ?_
        refine va_get (D := D) (ci := 12) (v := .ref (h0 1)) (C := RX13) (T := TX13) (N := 16) hx hb hts iX13 hown hK hP 0 rfl rfl 0 (by decide) (hts _ qfl_X13_7) (fun _ h9 => h9) rfl dX13_isBelow_8 ?_
        refine lv_bipush (v := 21) hx hb dX13_isBelow_11 (by decide) ?_
        refine lv_iload_n hx hb dX13_isBelow_13 rfl (lv_at hl 2 rfl) ?_
        refine lv_iadd hx hb dX13_isBelow_14 ?_
        obtain ⟨k7, hk7, h⟩ := x_rd h
        refine xIald hx hb hK hP 1 0 rfl rfl hk7 dX13_isBelow_15 ?_
        refine lv_if_le (tgt := 34) hx hb dX13_isBelow_16 (by decide) (fun c8 => ?_) (fun c8 => ?_)
        · have h := x_t h c8
          exact hJ_K34 v2_5 v3_5 _ _ hP hD hS _ (lv_sub hl [1, 2] rfl) h
        · have h := x_f h c8
          refine lv_aload_n hx hb dX13_isBelow_19 rfl (lv_at hl 0 rfl) ?_
          refine va_get (D := D) (ci := 12) (v := .ref (h0 1)) (C := RX13) (T := TX13) (N := 16) hx hb hts iX13 hown hK hP 0 rfl rfl 0 (by decide) (hts _ qfl_X13_7) (fun _ h9 => h9) rfl dX13_isBelow_20 ?_
          refine lv_bipush (v := 21) hx hb dX13_isBelow_23 (by decide) ?_
          refine lv_iload_n hx hb dX13_isBelow_25 rfl (lv_at hl 2 rfl) ?_
          refine lv_iadd hx hb dX13_isBelow_26 ?_
          obtain ⟨k9, hk9, h⟩ := x_rd h
          refine xIald hx hb hK hP 1 0 rfl rfl hk9 dX13_isBelow_27 ?_
          refine lv_iconst (v := 1) hx hb dX13_isBelow_28 (by decide) ?_
          refine lv_isub hx hb dX13_isBelow_29 ?_
          refine lv_topi (fun x10 ex10 => ?_)
          have h := x_let h ex10
          refine lv_istore_n (lv' := [(3, .int x10), (0, .ref (h0 0)), (2, .int v2_5)]) hx hb dX13_isBelow_30 rfl hl (by decide) rfl (fun ls hl => ?_)
          refine lv_goto (tgt := 2) hx hb dX13_isBelow_31 (by decide) ?_
          exact ih v2_5 x10 _ _ hP hD hS _ (lv_sub hl [1, 2, 0] rfl) h
  exact hL2 N a2 a1 _ _ hP hD hS _ (lv_sub hl [1, 3, 0] rfl) h
def fX13_treeBalance_L19 (N : Nat) (K56 : Int32 → MS → Option (Int64 × MS)) : Nat → Int32 → Int32 → Int32 → MS → Option (Int64 × MS)
  | 0, _, _, _, _ => none
  | n + 1, v1_5, v2_5, v3_5, s0_5 =>
    if (s0_5.1 1) ≤ v3_5 then
      K56 v2_5 s0_5
    else
      xcall (fX13_isBelow N v3_5 v1_5 s0_5) fun q7 =>
      xjoin (fun (t0_8 : Int32) (t1_8 : Int32) (v1_8 : Int32) (v3_8 : Int32) (s0_8 : MS) =>
          xlet (t1_8 + t0_8) fun x9 =>
          xlet (v3_8 + (1)) fun x10 =>
          fX13_treeBalance_L19 N K56 n v1_8 x9 x10 s0_8
        ) fun J48 =>
      if q7 = 0 then
        J48 0 v2_5 v1_5 v3_5 s0_5
      else
        xcall (fX13_balanceOf N v3_5 s0_5) fun q12 =>
        J48 q12 v2_5 v1_5 v3_5 s0_5
def fX13_treeBalance (N : Nat) (a1 : Int32) (s0 : MS) : Option (Int64 × MS) :=
  xcall (fX13_isAccount N a1 s0) fun q1 =>
  if q1 = 0 then
    xcall (fX13_fails N 1 s0) fun q13 =>
    some (q13.1.toInt64, q13.2)
  else
    xjoin (fun (v2_3 : Int32) (s0_3 : MS) =>
        xcall (fX13_done N v2_3 s0_3) fun q4 =>
        some (q4.1.toInt64, q4.2)
      ) fun K56 =>
    fX13_treeBalance_L19 N K56 N a1 0 a1 s0
set_option maxRecDepth 100000 in
set_option maxHeartbeats 4000000 in
theorem kX13_treeBalance (l : Launch) (D : va_G) (cA : Nat → ClassId) (h0 : Nat → Nat) (sz N : Nat) (a1 : Int32) (s0 : MS) (q : Int64 × MS) (h : fX13_treeBalance N a1 s0 = some q) : xM l yX13_treeBalance cX13_treeBalance 4 (some .long) ({ frames := 2, cells := 0, slots := 0, locals := 43 }) D cA (MW cA h0 s0) sz [.ref (h0 0), .int a1] (some (.long q.1)) (MW cA h0 q.2) := by
  generalize erm : ({ frames := 2, cells := 0, slots := 0, locals := 43 } : Room) = rm
  refine xMet (by decide) (Nat.le_of_ble_eq_true rfl) ?_
  intro p e s m below meth c hx hb hr hlocks hml hts hown hin hK hP A eA hD hS hA hsz ls hl
  have hl : lv_has ls 4 [(0, .ref (h0 0)), (1, .int a1)] := hl
  clear eA
  rw [fX13_treeBalance] at h
  refine lv_aload_n hx hb dX13_treeBalance_0 rfl (lv_at hl 0 rfl) ?_
  refine lv_iload_n hx hb dX13_treeBalance_1 rfl (lv_at hl 1 rfl) ?_
  obtain ⟨q1, c1, h⟩ := x_call h
  refine xCall (w2 := MW cA h0 s0) (xRunV (n := 1) (As := [.int a1]) (rest := []) ⟨hx, hb, hml, hown, hts⟩ (kX13_isAccount l D cA h0 _ N a1 s0 q1 c1) qco_X13_isAccount qml_X13_77 qin_X13_isAccount qse_X13_isAccount qini_X13 (by decide +kernel) (by rw [← erm]; rfl) hK hP hD [0, 1, 2, 3, 4, 5, 6, 7] rfl rfl (q0 := 0) rfl rfl rfl rfl rfl hl.1 rfl (lv_room (Nat.le_of_ble_eq_true rfl)) dX13_treeBalance_2 ⟨Nat.zero_le _, Nat.zero_le _⟩) hP hD hS hA [0, 1, 2, 3, 4, 5, 6, 7] [] [0, 1, 2, 3, 4, 5, 6, 7] rfl (wr := []) rfl rfl rfl rfl rfl (fun H locs hP hD hS => ?_)
  refine lv_if_ne (tgt := 15) hx hb dX13_treeBalance_5 (by decide) (fun c2 => ?_) (fun c2 => ?_)
  · have h := x_f h c2
    refine lv_iconst (v := 0) hx hb dX13_treeBalance_15 (by decide) ?_
    refine lv_istore_n (lv' := [(2, .int 0), (0, .ref (h0 0)), (1, .int a1)]) hx hb dX13_treeBalance_16 rfl hl (by decide) rfl (fun ls hl => ?_)
    refine lv_iload_n hx hb dX13_treeBalance_17 rfl (lv_at hl 2 rfl) ?_
    refine lv_istore_n (lv' := [(3, .int a1), (2, .int 0), (0, .ref (h0 0)), (1, .int a1)]) hx hb dX13_treeBalance_18 rfl hl (by decide) rfl (fun ls hl => ?_)
    obtain ⟨K56, eK56, h⟩ := x_join h
    have hJ_K56 : ∀ (v2_3 : Int32) (s0_3 : MS) (H : Heap) (locs : List Loc), va_P D vwCl (MW cA h0 s0_3) H → va_D A (MW cA h0 s0_3) → va_S A s.heap H locs → ∀ ls : Array Slot, lv_has ls 4 [(0, .ref (h0 0)), (2, .int v2_3)] → K56 v2_3 s0_3 = some q → W p l e rm s m ([.ref (h0 0), .int a1] : List Value).toArray below meth c H locs 0 0 (MQ below (xQ D cA A (MW cA h0 q.2) (some (.long q.1))) ([.ref (h0 0), .int a1] : List Value).toArray s 0 0 A) (F0 m 56 ls []) := by
      clear h hP hD hS hl
      intro v2_3 s0_3 H locs hP hD hS ls hl h
      rw [eK56] at h
      refine lv_aload_n hx hb dX13_treeBalance_56 rfl (lv_at hl 0 rfl) ?_
      refine lv_iload_n hx hb dX13_treeBalance_57 rfl (lv_at hl 1 rfl) ?_
      obtain ⟨q4, c4, h⟩ := x_call h
      refine xCall (w2 := MW cA h0 q4.2) (xRunV (n := 1) (As := [.int v2_3]) (rest := []) ⟨hx, hb, hml, hown, hts⟩ (kX13_done l D cA h0 _ N v2_3 s0_3 q4 c4) qco_X13_done qml_X13_60 qin_X13_done qse_X13_done qini_X13 (by decide +kernel) (by rw [← erm]; rfl) hK hP hD [0, 1, 2, 3, 4, 5, 6, 7] rfl rfl (q0 := 0) rfl rfl rfl rfl rfl hl.1 rfl (lv_room (Nat.le_of_ble_eq_true rfl)) dX13_treeBalance_58 ⟨Nat.zero_le _, Nat.zero_le _⟩) hP hD hS hA [0, 1, 2, 3, 4, 5, 6, 7] [] [0, 1, 2, 3, 4, 5, 6, 7] rfl (wr := []) rfl rfl rfl rfl rfl (fun H locs hP hD hS => ?_)
      refine lv_i2l hx hb dX13_treeBalance_61 rfl ?_
      have h := Option.some.inj h
      subst h
      exact xLret hx hb hr hlocks hP hK hD hS dX13_treeBalance_62
    have hL19 : ∀ (n : Nat) (v1_5 : Int32) (v2_5 : Int32) (v3_5 : Int32) (s0_5 : MS) (H : Heap) (locs : List Loc), va_P D vwCl (MW cA h0 s0_5) H → va_D A (MW cA h0 s0_5) → va_S A s.heap H locs → ∀ ls : Array Slot, lv_has ls 4 [(0, .ref (h0 0)), (1, .int v1_5), (2, .int v2_5), (3, .int v3_5)] → fX13_treeBalance_L19 N K56 n v1_5 v2_5 v3_5 s0_5 = some q → W p l e rm s m ([.ref (h0 0), .int a1] : List Value).toArray below meth c H locs 0 0 (MQ below (xQ D cA A (MW cA h0 q.2) (some (.long q.1))) ([.ref (h0 0), .int a1] : List Value).toArray s 0 0 A) (F0 m 19 ls []) := by
      clear h hP hD hS hl
      intro n
      induction n with
      | zero => intro v1_5 v2_5 v3_5 s0_5 H locs hP hD hS ls hl h; rw [fX13_treeBalance_L19] at h; cases h
      | succ n ih =>
        intro v1_5 v2_5 v3_5 s0_5 H locs hP hD hS ls hl h
        rw [fX13_treeBalance_L19] at h
        refine lv_iload_n hx hb dX13_treeBalance_19 rfl (lv_at hl 3 rfl) ?_
        refine lv_aload_n hx hb dX13_treeBalance_20 rfl (lv_at hl 0 rfl) ?_
        refine va_get (D := D) (ci := 12) (v := .ref (h0 1)) (C := RX13) (T := TX13) (N := 16) hx hb hts iX13 hown hK hP 0 rfl rfl 0 (by decide) (hts _ qfl_X13_7) (fun _ h9 => h9) rfl dX13_treeBalance_21 ?_
        refine lv_iconst (v := 1) hx hb dX13_treeBalance_24 (by decide) ?_
        refine xIald hx hb hK hP 1 0 rfl rfl (x_lit (k := 1) (by decide)) dX13_treeBalance_25 ?_
        refine lv_icmp_ge (tgt := 56) hx hb dX13_treeBalance_26 (by decide) (fun c6 => ?_) (fun c6 => ?_)
        · have h := x_t h c6
          exact hJ_K56 v2_5 s0_5 _ _ hP hD hS _ (lv_sub hl [0, 2] rfl) h
        · have h := x_f h c6
          refine lv_iload_n hx hb dX13_treeBalance_29 rfl (lv_at hl 2 rfl) ?_
          refine lv_aload_n hx hb dX13_treeBalance_30 rfl (lv_at hl 0 rfl) ?_
          refine lv_iload_n hx hb dX13_treeBalance_31 rfl (lv_at hl 3 rfl) ?_
          refine lv_iload_n hx hb dX13_treeBalance_32 rfl (lv_at hl 1 rfl) ?_
          obtain ⟨q7, c7, h⟩ := x_call h
          refine xCall (w2 := MW cA h0 s0_5) (xRunV (n := 2) (As := [.int v3_5, .int v1_5]) (rest := [.int v2_5]) ⟨hx, hb, hml, hown, hts⟩ (kX13_isBelow l D cA h0 _ N v3_5 v1_5 s0_5 q7 c7) qco_X13_isBelow qml_X13_167 qin_X13_isBelow qse_X13_isBelow qini_X13 (by decide +kernel) (by rw [← erm]; rfl) hK hP hD [0, 1, 2, 3, 4, 5, 6, 7] rfl rfl (q0 := 0) rfl rfl rfl rfl rfl hl.1 rfl (lv_room (Nat.le_of_ble_eq_true rfl)) dX13_treeBalance_33 ⟨Nat.zero_le _, Nat.zero_le _⟩) hP hD hS hA [0, 1, 2, 3, 4, 5, 6, 7] [] [0, 1, 2, 3, 4, 5, 6, 7] rfl (wr := []) rfl rfl rfl rfl rfl (fun H locs hP hD hS => ?_)
          obtain ⟨J48, eJ48, h⟩ := x_join h
          have hJ_J48 : ∀ (t0_8 : Int32) (t1_8 : Int32) (v1_8 : Int32) (v3_8 : Int32) (s0_8 : MS) (H : Heap) (locs : List Loc), va_P D vwCl (MW cA h0 s0_8) H → va_D A (MW cA h0 s0_8) → va_S A s.heap H locs → ∀ ls : Array Slot, lv_has ls 4 [(0, .ref (h0 0)), (1, .int v1_8), (3, .int v3_8)] → J48 t0_8 t1_8 v1_8 v3_8 s0_8 = some q → W p l e rm s m ([.ref (h0 0), .int a1] : List Value).toArray below meth c H locs 0 0 (MQ below (xQ D cA A (MW cA h0 q.2) (some (.long q.1))) ([.ref (h0 0), .int a1] : List Value).toArray s 0 0 A) (F0 m 48 ls [.int t0_8, .int t1_8]) := by
            clear h hP hD hS hl
            intro t0_8 t1_8 v1_8 v3_8 s0_8 H locs hP hD hS ls hl h
            rw [eJ48] at h
            refine lv_iadd hx hb dX13_treeBalance_48 ?_
            refine lv_topi (fun x9 ex9 => ?_)
            have h := x_let h ex9
            refine lv_istore_n (lv' := [(2, .int x9), (0, .ref (h0 0)), (1, .int v1_8), (3, .int v3_8)]) hx hb dX13_treeBalance_49 rfl hl (by decide) rfl (fun ls hl => ?_)
            obtain ⟨x10, ex10⟩ : ∃ y : Int32, y = v3_8 + (1) := ⟨_, rfl⟩
            have h := x_let h ex10
            refine lv_iinc (v := x10) (lv' := [(3, .int x10), (2, .int x9), (0, .ref (h0 0)), (1, .int v1_8)]) hx hb dX13_treeBalance_50 hl (k := 3) rfl (by rw [ex10]; rfl) (by decide) rfl (fun ls hl => ?_)
            refine lv_goto (tgt := 19) hx hb dX13_treeBalance_53 (by decide) ?_
            exact ih v1_8 x9 x10 s0_8 _ _ hP hD hS _ (lv_sub hl [2, 3, 1, 0] rfl) h
          refine lv_if_eq (tgt := 47) hx hb dX13_treeBalance_36 (by decide) (fun c11 => ?_) (fun c11 => ?_)
          · have h := x_t h c11
            refine lv_iconst (v := 0) hx hb dX13_treeBalance_47 (by decide) ?_
            exact hJ_J48 0 v2_5 v1_5 v3_5 s0_5 _ _ hP hD hS _ (lv_sub hl [0, 1, 3] rfl) h
          · have h := x_f h c11
            refine lv_aload_n hx hb dX13_treeBalance_39 rfl (lv_at hl 0 rfl) ?_
            refine lv_iload_n hx hb dX13_treeBalance_40 rfl (lv_at hl 3 rfl) ?_
            obtain ⟨q12, c12, h⟩ := x_call h
            refine xCall (w2 := MW cA h0 s0_5) (xRunV (n := 1) (As := [.int v3_5]) (rest := [.int v2_5]) ⟨hx, hb, hml, hown, hts⟩ (kX13_balanceOf l D cA h0 _ N v3_5 s0_5 q12 c12) qco_X13_balanceOf qml_X13_53 qin_X13_balanceOf qse_X13_balanceOf qini_X13 (by decide +kernel) (by rw [← erm]; rfl) hK hP hD [0, 1, 2, 3, 4, 5, 6, 7] rfl rfl (q0 := 0) rfl rfl rfl rfl rfl hl.1 rfl (lv_room (Nat.le_of_ble_eq_true rfl)) dX13_treeBalance_41 ⟨Nat.zero_le _, Nat.zero_le _⟩) hP hD hS hA [0, 1, 2, 3, 4, 5, 6, 7] [] [0, 1, 2, 3, 4, 5, 6, 7] rfl (wr := []) rfl rfl rfl rfl rfl (fun H locs hP hD hS => ?_)
            refine lv_goto (tgt := 48) hx hb dX13_treeBalance_44 (by decide) ?_
            exact hJ_J48 q12 v2_5 v1_5 v3_5 s0_5 _ _ hP hD hS _ (lv_sub hl [0, 1, 3] rfl) h
    exact hL19 N a1 0 a1 s0 _ _ hP hD hS _ (lv_sub hl [2, 3, 1, 0] rfl) h
  · have h := x_t h c2
    refine lv_aload_n hx hb dX13_treeBalance_8 rfl (lv_at hl 0 rfl) ?_
    refine lv_iconst (v := 1) hx hb dX13_treeBalance_9 (by decide) ?_
    obtain ⟨q13, c13, h⟩ := x_call h
    refine xCall (w2 := MW cA h0 q13.2) (xRunV (n := 1) (As := [.int 1]) (rest := []) ⟨hx, hb, hml, hown, hts⟩ (kX13_fails l D cA h0 _ N 1 s0 q13 c13) qco_X13_fails qml_X13_57 qin_X13_fails qse_X13_fails qini_X13 (by decide +kernel) (by rw [← erm]; rfl) hK hP hD [0, 1, 2, 3, 4, 5, 6, 7] rfl rfl (q0 := 0) rfl rfl rfl rfl rfl hl.1 rfl (lv_room (Nat.le_of_ble_eq_true rfl)) dX13_treeBalance_10 ⟨Nat.zero_le _, Nat.zero_le _⟩) hP hD hS hA [0, 1, 2, 3, 4, 5, 6, 7] [] [0, 1, 2, 3, 4, 5, 6, 7] rfl (wr := []) rfl rfl rfl rfl rfl (fun H locs hP hD hS => ?_)
    refine lv_i2l hx hb dX13_treeBalance_13 rfl ?_
    have h := Option.some.inj h
    subst h
    exact xLret hx hb hr hlocks hP hK hD hS dX13_treeBalance_14
def fX13_treeBalanceByParents (N : Nat) (a1 : Int32) (s0 : MS) : Option (Int64 × MS) :=
  xcall (fX13_treeBalance N a1 s0) fun q1 =>
  some (q1.1, q1.2)
set_option maxRecDepth 100000 in
set_option maxHeartbeats 4000000 in
theorem kX13_treeBalanceByParents (l : Launch) (D : va_G) (cA : Nat → ClassId) (h0 : Nat → Nat) (sz N : Nat) (a1 : Int32) (s0 : MS) (q : Int64 × MS) (h : fX13_treeBalanceByParents N a1 s0 = some q) : xM l yX13_treeBalanceByParents cX13_treeBalanceByParents 2 (some .long) ({ frames := 3, cells := 0, slots := 0, locals := 66 }) D cA (MW cA h0 s0) sz [.ref (h0 0), .int a1] (some (.long q.1)) (MW cA h0 q.2) := by
  generalize erm : ({ frames := 3, cells := 0, slots := 0, locals := 66 } : Room) = rm
  refine xMet (by decide) (Nat.le_of_ble_eq_true rfl) ?_
  intro p e s m below meth c hx hb hr hlocks hml hts hown hin hK hP A eA hD hS hA hsz ls hl
  have hl : lv_has ls 2 [(0, .ref (h0 0)), (1, .int a1)] := hl
  clear eA
  rw [fX13_treeBalanceByParents] at h
  refine lv_aload_n hx hb dX13_treeBalanceByParents_0 rfl (lv_at hl 0 rfl) ?_
  refine lv_iload_n hx hb dX13_treeBalanceByParents_1 rfl (lv_at hl 1 rfl) ?_
  obtain ⟨q1, c1, h⟩ := x_call h
  refine xCall (w2 := MW cA h0 q1.2) (xRunV (n := 1) (As := [.int a1]) (rest := []) ⟨hx, hb, hml, hown, hts⟩ (kX13_treeBalance l D cA h0 _ N a1 s0 q1 c1) qco_X13_treeBalance qml_X13_170 qin_X13_treeBalance qse_X13_treeBalance qini_X13 (by decide +kernel) (by rw [← erm]; rfl) hK hP hD [0, 1, 2, 3, 4, 5, 6, 7] rfl rfl (q0 := 0) rfl rfl rfl rfl rfl hl.1 rfl (lv_room (Nat.le_of_ble_eq_true rfl)) dX13_treeBalanceByParents_2 ⟨Nat.zero_le _, Nat.zero_le _⟩) hP hD hS hA [0, 1, 2, 3, 4, 5, 6, 7] [] [0, 1, 2, 3, 4, 5, 6, 7] rfl (wr := []) rfl rfl rfl rfl rfl (fun H locs hP hD hS => ?_)
  have h := Option.some.inj h
  subst h
  exact xLret hx hb hr hlocks hP hK hD hS dX13_treeBalanceByParents_5
def fX13_treeSize_L18 (N : Nat) (K51 : Int32 → MS → Option (Int32 × MS)) : Nat → Int32 → Int32 → Int32 → MS → Option (Int32 × MS)
  | 0, _, _, _, _ => none
  | n + 1, v1_5, v2_5, v3_5, s0_5 =>
    if (s0_5.1 1) ≤ v3_5 then
      K51 v2_5 s0_5
    else
      xcall (fX13_isBelow N v3_5 v1_5 s0_5) fun q7 =>
      xjoin (fun (t0_8 : Int32) (t1_8 : Int32) (v1_8 : Int32) (v3_8 : Int32) (s0_8 : MS) =>
          xlet (t1_8 + t0_8) fun x9 =>
          xlet (v3_8 + (1)) fun x10 =>
          fX13_treeSize_L18 N K51 n v1_8 x9 x10 s0_8
        ) fun J43 =>
      if q7 = 0 then
        J43 0 v2_5 v1_5 v3_5 s0_5
      else
        J43 1 v2_5 v1_5 v3_5 s0_5
def fX13_treeSize (N : Nat) (a1 : Int32) (s0 : MS) : Option (Int32 × MS) :=
  xcall (fX13_isAccount N a1 s0) fun q1 =>
  if q1 = 0 then
    xcall (fX13_fails N 1 s0) fun q12 =>
    some (q12.1, q12.2)
  else
    xjoin (fun (v2_3 : Int32) (s0_3 : MS) =>
        xcall (fX13_done N v2_3 s0_3) fun q4 =>
        some (q4.1, q4.2)
      ) fun K51 =>
    fX13_treeSize_L18 N K51 N a1 0 a1 s0
set_option maxRecDepth 100000 in
set_option maxHeartbeats 4000000 in
theorem kX13_treeSize (l : Launch) (D : va_G) (cA : Nat → ClassId) (h0 : Nat → Nat) (sz N : Nat) (a1 : Int32) (s0 : MS) (q : Int32 × MS) (h : fX13_treeSize N a1 s0 = some q) : xM l yX13_treeSize cX13_treeSize 4 (some .int) ({ frames := 2, cells := 0, slots := 0, locals := 43 }) D cA (MW cA h0 s0) sz [.ref (h0 0), .int a1] (some (.int q.1)) (MW cA h0 q.2) := by
  generalize erm : ({ frames := 2, cells := 0, slots := 0, locals := 43 } : Room) = rm
  refine xMet (by decide) (Nat.le_of_ble_eq_true rfl) ?_
  intro p e s m below meth c hx hb hr hlocks hml hts hown hin hK hP A eA hD hS hA hsz ls hl
  have hl : lv_has ls 4 [(0, .ref (h0 0)), (1, .int a1)] := hl
  clear eA
  rw [fX13_treeSize] at h
  refine lv_aload_n hx hb dX13_treeSize_0 rfl (lv_at hl 0 rfl) ?_
  refine lv_iload_n hx hb dX13_treeSize_1 rfl (lv_at hl 1 rfl) ?_
  obtain ⟨q1, c1, h⟩ := x_call h
  refine xCall (w2 := MW cA h0 s0) (xRunV (n := 1) (As := [.int a1]) (rest := []) ⟨hx, hb, hml, hown, hts⟩ (kX13_isAccount l D cA h0 _ N a1 s0 q1 c1) qco_X13_isAccount qml_X13_77 qin_X13_isAccount qse_X13_isAccount qini_X13 (by decide +kernel) (by rw [← erm]; rfl) hK hP hD [0, 1, 2, 3, 4, 5, 6, 7] rfl rfl (q0 := 0) rfl rfl rfl rfl rfl hl.1 rfl (lv_room (Nat.le_of_ble_eq_true rfl)) dX13_treeSize_2 ⟨Nat.zero_le _, Nat.zero_le _⟩) hP hD hS hA [0, 1, 2, 3, 4, 5, 6, 7] [] [0, 1, 2, 3, 4, 5, 6, 7] rfl (wr := []) rfl rfl rfl rfl rfl (fun H locs hP hD hS => ?_)
  refine lv_if_ne (tgt := 14) hx hb dX13_treeSize_5 (by decide) (fun c2 => ?_) (fun c2 => ?_)
  · have h := x_f h c2
    refine lv_iconst (v := 0) hx hb dX13_treeSize_14 (by decide) ?_
    refine lv_istore_n (lv' := [(2, .int 0), (0, .ref (h0 0)), (1, .int a1)]) hx hb dX13_treeSize_15 rfl hl (by decide) rfl (fun ls hl => ?_)
    refine lv_iload_n hx hb dX13_treeSize_16 rfl (lv_at hl 2 rfl) ?_
    refine lv_istore_n (lv' := [(3, .int a1), (2, .int 0), (0, .ref (h0 0)), (1, .int a1)]) hx hb dX13_treeSize_17 rfl hl (by decide) rfl (fun ls hl => ?_)
    obtain ⟨K51, eK51, h⟩ := x_join h
    have hJ_K51 : ∀ (v2_3 : Int32) (s0_3 : MS) (H : Heap) (locs : List Loc), va_P D vwCl (MW cA h0 s0_3) H → va_D A (MW cA h0 s0_3) → va_S A s.heap H locs → ∀ ls : Array Slot, lv_has ls 4 [(0, .ref (h0 0)), (2, .int v2_3)] → K51 v2_3 s0_3 = some q → W p l e rm s m ([.ref (h0 0), .int a1] : List Value).toArray below meth c H locs 0 0 (MQ below (xQ D cA A (MW cA h0 q.2) (some (.int q.1))) ([.ref (h0 0), .int a1] : List Value).toArray s 0 0 A) (F0 m 51 ls []) := by
      clear h hP hD hS hl
      intro v2_3 s0_3 H locs hP hD hS ls hl h
      rw [eK51] at h
      refine lv_aload_n hx hb dX13_treeSize_51 rfl (lv_at hl 0 rfl) ?_
      refine lv_iload_n hx hb dX13_treeSize_52 rfl (lv_at hl 1 rfl) ?_
      obtain ⟨q4, c4, h⟩ := x_call h
      refine xCall (w2 := MW cA h0 q4.2) (xRunV (n := 1) (As := [.int v2_3]) (rest := []) ⟨hx, hb, hml, hown, hts⟩ (kX13_done l D cA h0 _ N v2_3 s0_3 q4 c4) qco_X13_done qml_X13_60 qin_X13_done qse_X13_done qini_X13 (by decide +kernel) (by rw [← erm]; rfl) hK hP hD [0, 1, 2, 3, 4, 5, 6, 7] rfl rfl (q0 := 0) rfl rfl rfl rfl rfl hl.1 rfl (lv_room (Nat.le_of_ble_eq_true rfl)) dX13_treeSize_53 ⟨Nat.zero_le _, Nat.zero_le _⟩) hP hD hS hA [0, 1, 2, 3, 4, 5, 6, 7] [] [0, 1, 2, 3, 4, 5, 6, 7] rfl (wr := []) rfl rfl rfl rfl rfl (fun H locs hP hD hS => ?_)
      have h := Option.some.inj h
      subst h
      exact xIret hx hb hr hlocks hP hK hD hS dX13_treeSize_56
    have hL18 : ∀ (n : Nat) (v1_5 : Int32) (v2_5 : Int32) (v3_5 : Int32) (s0_5 : MS) (H : Heap) (locs : List Loc), va_P D vwCl (MW cA h0 s0_5) H → va_D A (MW cA h0 s0_5) → va_S A s.heap H locs → ∀ ls : Array Slot, lv_has ls 4 [(0, .ref (h0 0)), (1, .int v1_5), (2, .int v2_5), (3, .int v3_5)] → fX13_treeSize_L18 N K51 n v1_5 v2_5 v3_5 s0_5 = some q → W p l e rm s m ([.ref (h0 0), .int a1] : List Value).toArray below meth c H locs 0 0 (MQ below (xQ D cA A (MW cA h0 q.2) (some (.int q.1))) ([.ref (h0 0), .int a1] : List Value).toArray s 0 0 A) (F0 m 18 ls []) := by
      clear h hP hD hS hl
      intro n
      induction n with
      | zero => intro v1_5 v2_5 v3_5 s0_5 H locs hP hD hS ls hl h; rw [fX13_treeSize_L18] at h; cases h
      | succ n ih =>
        intro v1_5 v2_5 v3_5 s0_5 H locs hP hD hS ls hl h
        rw [fX13_treeSize_L18] at h
        refine lv_iload_n hx hb dX13_treeSize_18 rfl (lv_at hl 3 rfl) ?_
        refine lv_aload_n hx hb dX13_treeSize_19 rfl (lv_at hl 0 rfl) ?_
        refine va_get (D := D) (ci := 12) (v := .ref (h0 1)) (C := RX13) (T := TX13) (N := 16) hx hb hts iX13 hown hK hP 0 rfl rfl 0 (by decide) (hts _ qfl_X13_7) (fun _ h9 => h9) rfl dX13_treeSize_20 ?_
        refine lv_iconst (v := 1) hx hb dX13_treeSize_23 (by decide) ?_
        refine xIald hx hb hK hP 1 0 rfl rfl (x_lit (k := 1) (by decide)) dX13_treeSize_24 ?_
        refine lv_icmp_ge (tgt := 51) hx hb dX13_treeSize_25 (by decide) (fun c6 => ?_) (fun c6 => ?_)
        · have h := x_t h c6
          exact hJ_K51 v2_5 s0_5 _ _ hP hD hS _ (lv_sub hl [0, 2] rfl) h
        · have h := x_f h c6
          refine lv_iload_n hx hb dX13_treeSize_28 rfl (lv_at hl 2 rfl) ?_
          refine lv_aload_n hx hb dX13_treeSize_29 rfl (lv_at hl 0 rfl) ?_
          refine lv_iload_n hx hb dX13_treeSize_30 rfl (lv_at hl 3 rfl) ?_
          refine lv_iload_n hx hb dX13_treeSize_31 rfl (lv_at hl 1 rfl) ?_
          obtain ⟨q7, c7, h⟩ := x_call h
          refine xCall (w2 := MW cA h0 s0_5) (xRunV (n := 2) (As := [.int v3_5, .int v1_5]) (rest := [.int v2_5]) ⟨hx, hb, hml, hown, hts⟩ (kX13_isBelow l D cA h0 _ N v3_5 v1_5 s0_5 q7 c7) qco_X13_isBelow qml_X13_167 qin_X13_isBelow qse_X13_isBelow qini_X13 (by decide +kernel) (by rw [← erm]; rfl) hK hP hD [0, 1, 2, 3, 4, 5, 6, 7] rfl rfl (q0 := 0) rfl rfl rfl rfl rfl hl.1 rfl (lv_room (Nat.le_of_ble_eq_true rfl)) dX13_treeSize_32 ⟨Nat.zero_le _, Nat.zero_le _⟩) hP hD hS hA [0, 1, 2, 3, 4, 5, 6, 7] [] [0, 1, 2, 3, 4, 5, 6, 7] rfl (wr := []) rfl rfl rfl rfl rfl (fun H locs hP hD hS => ?_)
          obtain ⟨J43, eJ43, h⟩ := x_join h
          have hJ_J43 : ∀ (t0_8 : Int32) (t1_8 : Int32) (v1_8 : Int32) (v3_8 : Int32) (s0_8 : MS) (H : Heap) (locs : List Loc), va_P D vwCl (MW cA h0 s0_8) H → va_D A (MW cA h0 s0_8) → va_S A s.heap H locs → ∀ ls : Array Slot, lv_has ls 4 [(0, .ref (h0 0)), (1, .int v1_8), (3, .int v3_8)] → J43 t0_8 t1_8 v1_8 v3_8 s0_8 = some q → W p l e rm s m ([.ref (h0 0), .int a1] : List Value).toArray below meth c H locs 0 0 (MQ below (xQ D cA A (MW cA h0 q.2) (some (.int q.1))) ([.ref (h0 0), .int a1] : List Value).toArray s 0 0 A) (F0 m 43 ls [.int t0_8, .int t1_8]) := by
            clear h hP hD hS hl
            intro t0_8 t1_8 v1_8 v3_8 s0_8 H locs hP hD hS ls hl h
            rw [eJ43] at h
            refine lv_iadd hx hb dX13_treeSize_43 ?_
            refine lv_topi (fun x9 ex9 => ?_)
            have h := x_let h ex9
            refine lv_istore_n (lv' := [(2, .int x9), (0, .ref (h0 0)), (1, .int v1_8), (3, .int v3_8)]) hx hb dX13_treeSize_44 rfl hl (by decide) rfl (fun ls hl => ?_)
            obtain ⟨x10, ex10⟩ : ∃ y : Int32, y = v3_8 + (1) := ⟨_, rfl⟩
            have h := x_let h ex10
            refine lv_iinc (v := x10) (lv' := [(3, .int x10), (2, .int x9), (0, .ref (h0 0)), (1, .int v1_8)]) hx hb dX13_treeSize_45 hl (k := 3) rfl (by rw [ex10]; rfl) (by decide) rfl (fun ls hl => ?_)
            refine lv_goto (tgt := 18) hx hb dX13_treeSize_48 (by decide) ?_
            exact ih v1_8 x9 x10 s0_8 _ _ hP hD hS _ (lv_sub hl [2, 3, 1, 0] rfl) h
          refine lv_if_eq (tgt := 42) hx hb dX13_treeSize_35 (by decide) (fun c11 => ?_) (fun c11 => ?_)
          · have h := x_t h c11
            refine lv_iconst (v := 0) hx hb dX13_treeSize_42 (by decide) ?_
            exact hJ_J43 0 v2_5 v1_5 v3_5 s0_5 _ _ hP hD hS _ (lv_sub hl [0, 1, 3] rfl) h
          · have h := x_f h c11
            refine lv_iconst (v := 1) hx hb dX13_treeSize_38 (by decide) ?_
            refine lv_goto (tgt := 43) hx hb dX13_treeSize_39 (by decide) ?_
            exact hJ_J43 1 v2_5 v1_5 v3_5 s0_5 _ _ hP hD hS _ (lv_sub hl [0, 1, 3] rfl) h
    exact hL18 N a1 0 a1 s0 _ _ hP hD hS _ (lv_sub hl [2, 3, 1, 0] rfl) h
  · have h := x_t h c2
    refine lv_aload_n hx hb dX13_treeSize_8 rfl (lv_at hl 0 rfl) ?_
    refine lv_iconst (v := 1) hx hb dX13_treeSize_9 (by decide) ?_
    obtain ⟨q12, c12, h⟩ := x_call h
    refine xCall (w2 := MW cA h0 q12.2) (xRunV (n := 1) (As := [.int 1]) (rest := []) ⟨hx, hb, hml, hown, hts⟩ (kX13_fails l D cA h0 _ N 1 s0 q12 c12) qco_X13_fails qml_X13_57 qin_X13_fails qse_X13_fails qini_X13 (by decide +kernel) (by rw [← erm]; rfl) hK hP hD [0, 1, 2, 3, 4, 5, 6, 7] rfl rfl (q0 := 0) rfl rfl rfl rfl rfl hl.1 rfl (lv_room (Nat.le_of_ble_eq_true rfl)) dX13_treeSize_10 ⟨Nat.zero_le _, Nat.zero_le _⟩) hP hD hS hA [0, 1, 2, 3, 4, 5, 6, 7] [] [0, 1, 2, 3, 4, 5, 6, 7] rfl (wr := []) rfl rfl rfl rfl rfl (fun H locs hP hD hS => ?_)
    have h := Option.some.inj h
    subst h
    exact xIret hx hb hr hlocks hP hK hD hS dX13_treeSize_13
def fX13_sumOfDebits_L4 (N : Nat) (K32 : Int32 → MS → Option (Int64 × MS)) : Nat → Int32 → Int32 → MS → Option (Int64 × MS)
  | 0, _, _, _ => none
  | n + 1, v1_3, v2_3, s0_3 =>
    if (s0_3.1 1) ≤ v2_3 then
      K32 v1_3 s0_3
    else
      xrd 229 (33 + v2_3) fun k5 =>
      xlet (v1_3 + (s0_3.1 k5)) fun x6 =>
      xlet (v2_3 + (1)) fun x7 =>
      fX13_sumOfDebits_L4 N K32 n x6 x7 s0_3
def fX13_sumOfDebits (N : Nat)  (s0 : MS) : Option (Int64 × MS) :=
  xjoin (fun (v1_1 : Int32) (s0_1 : MS) =>
      xcall (fX13_done N v1_1 s0_1) fun q2 =>
      some (q2.1.toInt64, q2.2)
    ) fun K32 =>
  fX13_sumOfDebits_L4 N K32 N 0 0 s0
set_option maxRecDepth 100000 in
set_option maxHeartbeats 4000000 in
theorem kX13_sumOfDebits (l : Launch) (D : va_G) (cA : Nat → ClassId) (h0 : Nat → Nat) (sz N : Nat)  (s0 : MS) (q : Int64 × MS) (h : fX13_sumOfDebits N s0 = some q) : xM l yX13_sumOfDebits cX13_sumOfDebits 3 (some .long) ({ frames := 1, cells := 0, slots := 0, locals := 21 }) D cA (MW cA h0 s0) sz [.ref (h0 0)] (some (.long q.1)) (MW cA h0 q.2) := by
  generalize erm : ({ frames := 1, cells := 0, slots := 0, locals := 21 } : Room) = rm
  refine xMet (by decide) (Nat.le_of_ble_eq_true rfl) ?_
  intro p e s m below meth c hx hb hr hlocks hml hts hown hin hK hP A eA hD hS hA hsz ls hl
  have hl : lv_has ls 3 [(0, .ref (h0 0))] := hl
  clear eA
  rw [fX13_sumOfDebits] at h
  refine lv_iconst (v := 0) hx hb dX13_sumOfDebits_0 (by decide) ?_
  refine lv_istore_n (lv' := [(1, .int 0), (0, .ref (h0 0))]) hx hb dX13_sumOfDebits_1 rfl hl (by decide) rfl (fun ls hl => ?_)
  refine lv_iconst (v := 0) hx hb dX13_sumOfDebits_2 (by decide) ?_
  refine lv_istore_n (lv' := [(2, .int 0), (1, .int 0), (0, .ref (h0 0))]) hx hb dX13_sumOfDebits_3 rfl hl (by decide) rfl (fun ls hl => ?_)
  obtain ⟨K32, eK32, h⟩ := x_join h
  have hJ_K32 : ∀ (v1_1 : Int32) (s0_1 : MS) (H : Heap) (locs : List Loc), va_P D vwCl (MW cA h0 s0_1) H → va_D A (MW cA h0 s0_1) → va_S A s.heap H locs → ∀ ls : Array Slot, lv_has ls 3 [(0, .ref (h0 0)), (1, .int v1_1)] → K32 v1_1 s0_1 = some q → W p l e rm s m ([.ref (h0 0)] : List Value).toArray below meth c H locs 0 0 (MQ below (xQ D cA A (MW cA h0 q.2) (some (.long q.1))) ([.ref (h0 0)] : List Value).toArray s 0 0 A) (F0 m 32 ls []) := by
    clear h hP hD hS hl
    intro v1_1 s0_1 H locs hP hD hS ls hl h
    rw [eK32] at h
    refine lv_aload_n hx hb dX13_sumOfDebits_32 rfl (lv_at hl 0 rfl) ?_
    refine lv_iload_n hx hb dX13_sumOfDebits_33 rfl (lv_at hl 1 rfl) ?_
    obtain ⟨q2, c2, h⟩ := x_call h
    refine xCall (w2 := MW cA h0 q2.2) (xRunV (n := 1) (As := [.int v1_1]) (rest := []) ⟨hx, hb, hml, hown, hts⟩ (kX13_done l D cA h0 _ N v1_1 s0_1 q2 c2) qco_X13_done qml_X13_60 qin_X13_done qse_X13_done qini_X13 (by decide +kernel) (by rw [← erm]; rfl) hK hP hD [0, 1, 2, 3, 4, 5, 6, 7] rfl rfl (q0 := 0) rfl rfl rfl rfl rfl hl.1 rfl (lv_room (Nat.le_of_ble_eq_true rfl)) dX13_sumOfDebits_34 ⟨Nat.zero_le _, Nat.zero_le _⟩) hP hD hS hA [0, 1, 2, 3, 4, 5, 6, 7] [] [0, 1, 2, 3, 4, 5, 6, 7] rfl (wr := []) rfl rfl rfl rfl rfl (fun H locs hP hD hS => ?_)
    refine lv_i2l hx hb dX13_sumOfDebits_37 rfl ?_
    have h := Option.some.inj h
    subst h
    exact xLret hx hb hr hlocks hP hK hD hS dX13_sumOfDebits_38
  have hL4 : ∀ (n : Nat) (v1_3 : Int32) (v2_3 : Int32) (s0_3 : MS) (H : Heap) (locs : List Loc), va_P D vwCl (MW cA h0 s0_3) H → va_D A (MW cA h0 s0_3) → va_S A s.heap H locs → ∀ ls : Array Slot, lv_has ls 3 [(0, .ref (h0 0)), (1, .int v1_3), (2, .int v2_3)] → fX13_sumOfDebits_L4 N K32 n v1_3 v2_3 s0_3 = some q → W p l e rm s m ([.ref (h0 0)] : List Value).toArray below meth c H locs 0 0 (MQ below (xQ D cA A (MW cA h0 q.2) (some (.long q.1))) ([.ref (h0 0)] : List Value).toArray s 0 0 A) (F0 m 4 ls []) := by
    clear h hP hD hS hl
    intro n
    induction n with
    | zero => intro v1_3 v2_3 s0_3 H locs hP hD hS ls hl h; rw [fX13_sumOfDebits_L4] at h; cases h
    | succ n ih =>
      intro v1_3 v2_3 s0_3 H locs hP hD hS ls hl h
      rw [fX13_sumOfDebits_L4] at h
      refine lv_iload_n hx hb dX13_sumOfDebits_4 rfl (lv_at hl 2 rfl) ?_
      refine lv_aload_n hx hb dX13_sumOfDebits_5 rfl (lv_at hl 0 rfl) ?_
      refine va_get (D := D) (ci := 12) (v := .ref (h0 1)) (C := RX13) (T := TX13) (N := 16) hx hb hts iX13 hown hK hP 0 rfl rfl 0 (by decide) (hts _ qfl_X13_7) (fun _ h9 => h9) rfl dX13_sumOfDebits_6 ?_
      refine lv_iconst (v := 1) hx hb dX13_sumOfDebits_9 (by decide) ?_
      refine xIald hx hb hK hP 1 0 rfl rfl (x_lit (k := 1) (by decide)) dX13_sumOfDebits_10 ?_
      refine lv_icmp_ge (tgt := 32) hx hb dX13_sumOfDebits_11 (by decide) (fun c4 => ?_) (fun c4 => ?_)
      · have h := x_t h c4
        exact hJ_K32 v1_3 s0_3 _ _ hP hD hS _ (lv_sub hl [0, 1] rfl) h
      · have h := x_f h c4
        refine lv_iload_n hx hb dX13_sumOfDebits_14 rfl (lv_at hl 1 rfl) ?_
        refine lv_aload_n hx hb dX13_sumOfDebits_15 rfl (lv_at hl 0 rfl) ?_
        refine va_get (D := D) (ci := 12) (v := .ref (h0 1)) (C := RX13) (T := TX13) (N := 16) hx hb hts iX13 hown hK hP 0 rfl rfl 0 (by decide) (hts _ qfl_X13_7) (fun _ h9 => h9) rfl dX13_sumOfDebits_16 ?_
        refine lv_bipush (v := 33) hx hb dX13_sumOfDebits_19 (by decide) ?_
        refine lv_iload_n hx hb dX13_sumOfDebits_21 rfl (lv_at hl 2 rfl) ?_
        refine lv_iadd hx hb dX13_sumOfDebits_22 ?_
        obtain ⟨k5, hk5, h⟩ := x_rd h
        refine xIald hx hb hK hP 1 0 rfl rfl hk5 dX13_sumOfDebits_23 ?_
        refine lv_iadd hx hb dX13_sumOfDebits_24 ?_
        refine lv_topi (fun x6 ex6 => ?_)
        have h := x_let h ex6
        refine lv_istore_n (lv' := [(1, .int x6), (0, .ref (h0 0)), (2, .int v2_3)]) hx hb dX13_sumOfDebits_25 rfl hl (by decide) rfl (fun ls hl => ?_)
        obtain ⟨x7, ex7⟩ : ∃ y : Int32, y = v2_3 + (1) := ⟨_, rfl⟩
        have h := x_let h ex7
        refine lv_iinc (v := x7) (lv' := [(2, .int x7), (1, .int x6), (0, .ref (h0 0))]) hx hb dX13_sumOfDebits_26 hl (k := 2) rfl (by rw [ex7]; rfl) (by decide) rfl (fun ls hl => ?_)
        refine lv_goto (tgt := 4) hx hb dX13_sumOfDebits_29 (by decide) ?_
        exact ih x6 x7 s0_3 _ _ hP hD hS _ (lv_sub hl [2, 1, 0] rfl) h
  exact hL4 N 0 0 s0 _ _ hP hD hS _ (lv_sub hl [2, 1, 0] rfl) h
def fX13_sumOfCredits (N : Nat)  (s0 : MS) : Option (Int64 × MS) :=
  xcall (fX13_sumOfDebits N s0) fun q1 =>
  some (q1.1, q1.2)
set_option maxRecDepth 100000 in
set_option maxHeartbeats 4000000 in
theorem kX13_sumOfCredits (l : Launch) (D : va_G) (cA : Nat → ClassId) (h0 : Nat → Nat) (sz N : Nat)  (s0 : MS) (q : Int64 × MS) (h : fX13_sumOfCredits N s0 = some q) : xM l yX13_sumOfCredits cX13_sumOfCredits 1 (some .long) ({ frames := 2, cells := 0, slots := 0, locals := 43 }) D cA (MW cA h0 s0) sz [.ref (h0 0)] (some (.long q.1)) (MW cA h0 q.2) := by
  generalize erm : ({ frames := 2, cells := 0, slots := 0, locals := 43 } : Room) = rm
  refine xMet (by decide) (Nat.le_of_ble_eq_true rfl) ?_
  intro p e s m below meth c hx hb hr hlocks hml hts hown hin hK hP A eA hD hS hA hsz ls hl
  have hl : lv_has ls 1 [(0, .ref (h0 0))] := hl
  clear eA
  rw [fX13_sumOfCredits] at h
  refine lv_aload_n hx hb dX13_sumOfCredits_0 rfl (lv_at hl 0 rfl) ?_
  obtain ⟨q1, c1, h⟩ := x_call h
  refine xCall (w2 := MW cA h0 q1.2) (xRunV (n := 0) (As := []) (rest := []) ⟨hx, hb, hml, hown, hts⟩ (kX13_sumOfDebits l D cA h0 _ N s0 q1 c1) qco_X13_sumOfDebits qml_X13_174 qin_X13_sumOfDebits qse_X13_sumOfDebits qini_X13 (by decide +kernel) (by rw [← erm]; rfl) hK hP hD [0, 1, 2, 3, 4, 5, 6, 7] rfl rfl (q0 := 0) rfl rfl rfl rfl rfl hl.1 rfl (lv_room (Nat.le_of_ble_eq_true rfl)) dX13_sumOfCredits_1 ⟨Nat.zero_le _, Nat.zero_le _⟩) hP hD hS hA [0, 1, 2, 3, 4, 5, 6, 7] [] [0, 1, 2, 3, 4, 5, 6, 7] rfl (wr := []) rfl rfl rfl rfl rfl (fun H locs hP hD hS => ?_)
  have h := Option.some.inj h
  subst h
  exact xLret hx hb hr hlocks hP hK hD hS dX13_sumOfCredits_4
def fX13_profit (N : Nat)  (s0 : MS) : Option (Int64 × MS) :=
  xcall (fX13_profitNow N s0) fun q1 =>
  xcall (fX13_done N q1 s0) fun q2 =>
  some (q2.1.toInt64, q2.2)
set_option maxRecDepth 100000 in
set_option maxHeartbeats 4000000 in
theorem kX13_profit (l : Launch) (D : va_G) (cA : Nat → ClassId) (h0 : Nat → Nat) (sz N : Nat)  (s0 : MS) (q : Int64 × MS) (h : fX13_profit N s0 = some q) : xM l yX13_profit cX13_profit 1 (some .long) ({ frames := 2, cells := 0, slots := 0, locals := 44 }) D cA (MW cA h0 s0) sz [.ref (h0 0)] (some (.long q.1)) (MW cA h0 q.2) := by
  generalize erm : ({ frames := 2, cells := 0, slots := 0, locals := 44 } : Room) = rm
  refine xMet (by decide) (Nat.le_of_ble_eq_true rfl) ?_
  intro p e s m below meth c hx hb hr hlocks hml hts hown hin hK hP A eA hD hS hA hsz ls hl
  have hl : lv_has ls 1 [(0, .ref (h0 0))] := hl
  clear eA
  rw [fX13_profit] at h
  refine lv_aload_n hx hb dX13_profit_0 rfl (lv_at hl 0 rfl) ?_
  refine lv_aload_n hx hb dX13_profit_1 rfl (lv_at hl 0 rfl) ?_
  obtain ⟨q1, c1, h⟩ := x_call h
  refine xCall (w2 := MW cA h0 s0) (xRunV (n := 0) (As := []) (rest := [.ref (h0 0)]) ⟨hx, hb, hml, hown, hts⟩ (kX13_profitNow l D cA h0 _ N s0 q1 c1) qco_X13_profitNow qml_X13_161 qin_X13_profitNow qse_X13_profitNow qini_X13 (by decide +kernel) (by rw [← erm]; rfl) hK hP hD [0, 1, 2, 3, 4, 5, 6, 7] rfl rfl (q0 := 0) rfl rfl rfl rfl rfl hl.1 rfl (lv_room (Nat.le_of_ble_eq_true rfl)) dX13_profit_2 ⟨Nat.zero_le _, Nat.zero_le _⟩) hP hD hS hA [0, 1, 2, 3, 4, 5, 6, 7] [] [0, 1, 2, 3, 4, 5, 6, 7] rfl (wr := []) rfl rfl rfl rfl rfl (fun H locs hP hD hS => ?_)
  obtain ⟨q2, c2, h⟩ := x_call h
  refine xCall (w2 := MW cA h0 q2.2) (xRunV (n := 1) (As := [.int q1]) (rest := []) ⟨hx, hb, hml, hown, hts⟩ (kX13_done l D cA h0 _ N q1 s0 q2 c2) qco_X13_done qml_X13_60 qin_X13_done qse_X13_done qini_X13 (by decide +kernel) (by rw [← erm]; rfl) hK hP hD [0, 1, 2, 3, 4, 5, 6, 7] rfl rfl (q0 := 0) rfl rfl rfl rfl rfl hl.1 rfl (lv_room (Nat.le_of_ble_eq_true rfl)) dX13_profit_5 ⟨Nat.zero_le _, Nat.zero_le _⟩) hP hD hS hA [0, 1, 2, 3, 4, 5, 6, 7] [] [0, 1, 2, 3, 4, 5, 6, 7] rfl (wr := []) rfl rfl rfl rfl rfl (fun H locs hP hD hS => ?_)
  refine lv_i2l hx hb dX13_profit_8 rfl ?_
  have h := Option.some.inj h
  subst h
  exact xLret hx hb hr hlocks hP hK hD hS dX13_profit_9
def fX13_entryCount (N : Nat)  (s0 : MS) : Option (Int32 × MS) :=
  xcall (fX13_done N (s0.1 2) s0) fun q1 =>
  some (q1.1, q1.2)
set_option maxRecDepth 100000 in
set_option maxHeartbeats 4000000 in
theorem kX13_entryCount (l : Launch) (D : va_G) (cA : Nat → ClassId) (h0 : Nat → Nat) (sz N : Nat)  (s0 : MS) (q : Int32 × MS) (h : fX13_entryCount N s0 = some q) : xM l yX13_entryCount cX13_entryCount 1 (some .int) ({ frames := 1, cells := 0, slots := 0, locals := 21 }) D cA (MW cA h0 s0) sz [.ref (h0 0)] (some (.int q.1)) (MW cA h0 q.2) := by
  generalize erm : ({ frames := 1, cells := 0, slots := 0, locals := 21 } : Room) = rm
  refine xMet (by decide) (Nat.le_of_ble_eq_true rfl) ?_
  intro p e s m below meth c hx hb hr hlocks hml hts hown hin hK hP A eA hD hS hA hsz ls hl
  have hl : lv_has ls 1 [(0, .ref (h0 0))] := hl
  clear eA
  rw [fX13_entryCount] at h
  refine lv_aload_n hx hb dX13_entryCount_0 rfl (lv_at hl 0 rfl) ?_
  refine lv_aload_n hx hb dX13_entryCount_1 rfl (lv_at hl 0 rfl) ?_
  refine va_get (D := D) (ci := 12) (v := .ref (h0 1)) (C := RX13) (T := TX13) (N := 16) hx hb hts iX13 hown hK hP 0 rfl rfl 0 (by decide) (hts _ qfl_X13_7) (fun _ h9 => h9) rfl dX13_entryCount_2 ?_
  refine lv_iconst (v := 2) hx hb dX13_entryCount_5 (by decide) ?_
  refine xIald hx hb hK hP 1 0 rfl rfl (x_lit (k := 2) (by decide)) dX13_entryCount_6 ?_
  obtain ⟨q1, c1, h⟩ := x_call h
  refine xCall (w2 := MW cA h0 q1.2) (xRunV (n := 1) (As := [.int (s0.1 2)]) (rest := []) ⟨hx, hb, hml, hown, hts⟩ (kX13_done l D cA h0 _ N (s0.1 2) s0 q1 c1) qco_X13_done qml_X13_60 qin_X13_done qse_X13_done qini_X13 (by decide +kernel) (by rw [← erm]; rfl) hK hP hD [0, 1, 2, 3, 4, 5, 6, 7] rfl rfl (q0 := 0) rfl rfl rfl rfl rfl hl.1 rfl (lv_room (Nat.le_of_ble_eq_true rfl)) dX13_entryCount_7 ⟨Nat.zero_le _, Nat.zero_le _⟩) hP hD hS hA [0, 1, 2, 3, 4, 5, 6, 7] [] [0, 1, 2, 3, 4, 5, 6, 7] rfl (wr := []) rfl rfl rfl rfl rfl (fun H locs hP hD hS => ?_)
  have h := Option.some.inj h
  subst h
  exact xIret hx hb hr hlocks hP hK hD hS dX13_entryCount_10
def fX13_entryAt (N : Nat) (a1 : Int32) (s0 : MS) : Option (Int32 × MS) :=
  xcall (fX13_in N a1 0 ((s0.1 2) - 1)) fun q1 =>
  xjoin (fun (t0_2 : Int32) (s0_2 : MS) =>
      some (t0_2, s0_2)
    ) fun J43 =>
  if q1 = 0 then
    xcall (fX13_fails N 1 s0) fun q4 =>
    J43 q4.1 q4.2
  else
    xcall (fX13_done N (((s0.1 3) - (s0.1 2)) + a1) s0) fun q5 =>
    J43 q5.1 q5.2
set_option maxRecDepth 100000 in
set_option maxHeartbeats 4000000 in
theorem kX13_entryAt (l : Launch) (D : va_G) (cA : Nat → ClassId) (h0 : Nat → Nat) (sz N : Nat) (a1 : Int32) (s0 : MS) (q : Int32 × MS) (h : fX13_entryAt N a1 s0 = some q) : xM l yX13_entryAt cX13_entryAt 2 (some .int) ({ frames := 1, cells := 0, slots := 0, locals := 22 }) D cA (MW cA h0 s0) sz [.ref (h0 0), .int a1] (some (.int q.1)) (MW cA h0 q.2) := by
  generalize erm : ({ frames := 1, cells := 0, slots := 0, locals := 22 } : Room) = rm
  refine xMet (by decide) (Nat.le_of_ble_eq_true rfl) ?_
  intro p e s m below meth c hx hb hr hlocks hml hts hown hin hK hP A eA hD hS hA hsz ls hl
  have hl : lv_has ls 2 [(0, .ref (h0 0)), (1, .int a1)] := hl
  clear eA
  rw [fX13_entryAt] at h
  refine lv_iload_n hx hb dX13_entryAt_0 rfl (lv_at hl 1 rfl) ?_
  refine lv_iconst (v := 0) hx hb dX13_entryAt_1 (by decide) ?_
  refine lv_aload_n hx hb dX13_entryAt_2 rfl (lv_at hl 0 rfl) ?_
  refine va_get (D := D) (ci := 12) (v := .ref (h0 1)) (C := RX13) (T := TX13) (N := 16) hx hb hts iX13 hown hK hP 0 rfl rfl 0 (by decide) (hts _ qfl_X13_7) (fun _ h9 => h9) rfl dX13_entryAt_3 ?_
  refine lv_iconst (v := 2) hx hb dX13_entryAt_6 (by decide) ?_
  refine xIald hx hb hK hP 1 0 rfl rfl (x_lit (k := 2) (by decide)) dX13_entryAt_7 ?_
  refine lv_iconst (v := 1) hx hb dX13_entryAt_8 (by decide) ?_
  refine lv_isub hx hb dX13_entryAt_9 ?_
  obtain ⟨q1, c1, h⟩ := x_call h
  refine xCall (w2 := MW cA h0 s0) (xRunS (n := 3) (As := [.int a1, .int 0, .int ((s0.1 2) - 1)]) (rest := []) ⟨hx, hb, hml, hown, hts⟩ (kX13_in l D cA  _ N a1 0 ((s0.1 2) - 1) q1 c1) qco_X13_in qml_X13_49 qst_X13_in qini_X13 (by decide +kernel) (by rw [← erm]; rfl) hK hP hD [] rfl rfl rfl rfl hl.1 rfl (lv_room (Nat.le_of_ble_eq_true rfl)) dX13_entryAt_10 ⟨Nat.zero_le _, Nat.zero_le _⟩) hP hD hS hA [] [0, 1, 2, 3, 4, 5, 6, 7] [0, 1, 2, 3, 4, 5, 6, 7] rfl (wr := [(h0 0, .inr (12, [.ref (h0 1), .ref (h0 2), .ref (h0 3), .int (s0.2.2.2.1), .ref (h0 4), .int (s0.2.2.2.2.2.1), .ref (h0 5), .int (s0.2.2.2.2.2.2.2.1), .int (s0.2.2.2.2.2.2.2.2.1), .int (s0.2.2.2.2.2.2.2.2.2.1), .ref (h0 6), .int (s0.2.2.2.2.2.2.2.2.2.2.2.1), .int (s0.2.2.2.2.2.2.2.2.2.2.2.2.1), .int (s0.2.2.2.2.2.2.2.2.2.2.2.2.2.1), .int (s0.2.2.2.2.2.2.2.2.2.2.2.2.2.2.1), .ref (h0 7)])), (h0 1, .inl (cA 0, 229, .inl (s0.1))), (h0 2, .inl (cA 0, 229, .inl (s0.2.1))), (h0 3, .inl (cA 0, 1832, .inl (s0.2.2.1))), (h0 4, .inl (cA 0, 229, .inl (s0.2.2.2.2.1))), (h0 5, .inl (cA 1, 60, .inl (s0.2.2.2.2.2.2.1))), (h0 6, .inl (cA 1, 60, .inl (s0.2.2.2.2.2.2.2.2.2.2.1))), (h0 7, .inl (cA 0, 240, .inl (s0.2.2.2.2.2.2.2.2.2.2.2.2.2.2.2)))]) rfl rfl rfl rfl rfl (fun H locs hP hD hS => ?_)
  obtain ⟨J43, eJ43, h⟩ := x_join h
  have hJ_J43 : ∀ (t0_2 : Int32) (s0_2 : MS) (H : Heap) (locs : List Loc), va_P D vwCl (MW cA h0 s0_2) H → va_D A (MW cA h0 s0_2) → va_S A s.heap H locs → ∀ ls : Array Slot, lv_has ls 2 [] → J43 t0_2 s0_2 = some q → W p l e rm s m ([.ref (h0 0), .int a1] : List Value).toArray below meth c H locs 0 0 (MQ below (xQ D cA A (MW cA h0 q.2) (some (.int q.1))) ([.ref (h0 0), .int a1] : List Value).toArray s 0 0 A) (F0 m 43 ls [.int t0_2]) := by
    clear h hP hD hS hl
    intro t0_2 s0_2 H locs hP hD hS ls hl h
    rw [eJ43] at h
    have h := Option.some.inj h
    subst h
    exact xIret hx hb hr hlocks hP hK hD hS dX13_entryAt_43
  refine lv_if_eq (tgt := 38) hx hb dX13_entryAt_13 (by decide) (fun c3 => ?_) (fun c3 => ?_)
  · have h := x_t h c3
    refine lv_aload_n hx hb dX13_entryAt_38 rfl (lv_at hl 0 rfl) ?_
    refine lv_iconst (v := 1) hx hb dX13_entryAt_39 (by decide) ?_
    obtain ⟨q4, c4, h⟩ := x_call h
    refine xCall (w2 := MW cA h0 q4.2) (xRunV (n := 1) (As := [.int 1]) (rest := []) ⟨hx, hb, hml, hown, hts⟩ (kX13_fails l D cA h0 _ N 1 s0 q4 c4) qco_X13_fails qml_X13_57 qin_X13_fails qse_X13_fails qini_X13 (by decide +kernel) (by rw [← erm]; rfl) hK hP hD [0, 1, 2, 3, 4, 5, 6, 7] rfl rfl (q0 := 0) rfl rfl rfl rfl rfl hl.1 rfl (lv_room (Nat.le_of_ble_eq_true rfl)) dX13_entryAt_40 ⟨Nat.zero_le _, Nat.zero_le _⟩) hP hD hS hA [0, 1, 2, 3, 4, 5, 6, 7] [] [0, 1, 2, 3, 4, 5, 6, 7] rfl (wr := []) rfl rfl rfl rfl rfl (fun H locs hP hD hS => ?_)
    exact hJ_J43 q4.1 q4.2 _ _ hP hD hS _ (lv_sub hl [] rfl) h
  · have h := x_f h c3
    refine lv_aload_n hx hb dX13_entryAt_16 rfl (lv_at hl 0 rfl) ?_
    refine lv_aload_n hx hb dX13_entryAt_17 rfl (lv_at hl 0 rfl) ?_
    refine va_get (D := D) (ci := 12) (v := .ref (h0 1)) (C := RX13) (T := TX13) (N := 16) hx hb hts iX13 hown hK hP 0 rfl rfl 0 (by decide) (hts _ qfl_X13_7) (fun _ h9 => h9) rfl dX13_entryAt_18 ?_
    refine lv_iconst (v := 3) hx hb dX13_entryAt_21 (by decide) ?_
    refine xIald hx hb hK hP 1 0 rfl rfl (x_lit (k := 3) (by decide)) dX13_entryAt_22 ?_
    refine lv_aload_n hx hb dX13_entryAt_23 rfl (lv_at hl 0 rfl) ?_
    refine va_get (D := D) (ci := 12) (v := .ref (h0 1)) (C := RX13) (T := TX13) (N := 16) hx hb hts iX13 hown hK hP 0 rfl rfl 0 (by decide) (hts _ qfl_X13_7) (fun _ h9 => h9) rfl dX13_entryAt_24 ?_
    refine lv_iconst (v := 2) hx hb dX13_entryAt_27 (by decide) ?_
    refine xIald hx hb hK hP 1 0 rfl rfl (x_lit (k := 2) (by decide)) dX13_entryAt_28 ?_
    refine lv_isub hx hb dX13_entryAt_29 ?_
    refine lv_iload_n hx hb dX13_entryAt_30 rfl (lv_at hl 1 rfl) ?_
    refine lv_iadd hx hb dX13_entryAt_31 ?_
    obtain ⟨q5, c5, h⟩ := x_call h
    refine xCall (w2 := MW cA h0 q5.2) (xRunV (n := 1) (As := [.int (((s0.1 3) - (s0.1 2)) + a1)]) (rest := []) ⟨hx, hb, hml, hown, hts⟩ (kX13_done l D cA h0 _ N (((s0.1 3) - (s0.1 2)) + a1) s0 q5 c5) qco_X13_done qml_X13_60 qin_X13_done qse_X13_done qini_X13 (by decide +kernel) (by rw [← erm]; rfl) hK hP hD [0, 1, 2, 3, 4, 5, 6, 7] rfl rfl (q0 := 0) rfl rfl rfl rfl rfl hl.1 rfl (lv_room (Nat.le_of_ble_eq_true rfl)) dX13_entryAt_32 ⟨Nat.zero_le _, Nat.zero_le _⟩) hP hD hS hA [0, 1, 2, 3, 4, 5, 6, 7] [] [0, 1, 2, 3, 4, 5, 6, 7] rfl (wr := []) rfl rfl rfl rfl rfl (fun H locs hP hD hS => ?_)
    refine lv_goto (tgt := 43) hx hb dX13_entryAt_35 (by decide) ?_
    exact hJ_J43 q5.1 q5.2 _ _ hP hD hS _ (lv_sub hl [] rfl) h
def fX13_entryNumber (N : Nat) (a1 : Int32) (a2 : Int32) (s0 : MS) : Option (Int32 × MS) :=
  xcall (fX13_placeOf N a2 s0) fun q1 =>
  xjoin (fun (t0_2 : Int32) (s0_2 : MS) =>
      some (t0_2, s0_2)
    ) fun J31 =>
  if q1 = (-1) then
    xcall (fX13_fails N 1 s0) fun q6 =>
    J31 q6.1 q6.2
  else
    xrd 229 (a1 + q1) fun k4 =>
    xcall (fX13_done N (s0.1 k4) s0) fun q5 =>
    J31 q5.1 q5.2
set_option maxRecDepth 100000 in
set_option maxHeartbeats 4000000 in
theorem kX13_entryNumber (l : Launch) (D : va_G) (cA : Nat → ClassId) (h0 : Nat → Nat) (sz N : Nat) (a1 : Int32) (a2 : Int32) (s0 : MS) (q : Int32 × MS) (h : fX13_entryNumber N a1 a2 s0 = some q) : xM l yX13_entryNumber cX13_entryNumber 4 (some .int) ({ frames := 2, cells := 0, slots := 0, locals := 44 }) D cA (MW cA h0 s0) sz [.ref (h0 0), .int a1, .int a2] (some (.int q.1)) (MW cA h0 q.2) := by
  generalize erm : ({ frames := 2, cells := 0, slots := 0, locals := 44 } : Room) = rm
  refine xMet (by decide) (Nat.le_of_ble_eq_true rfl) ?_
  intro p e s m below meth c hx hb hr hlocks hml hts hown hin hK hP A eA hD hS hA hsz ls hl
  have hl : lv_has ls 4 [(0, .ref (h0 0)), (1, .int a1), (2, .int a2)] := hl
  clear eA
  rw [fX13_entryNumber] at h
  refine lv_aload_n hx hb dX13_entryNumber_0 rfl (lv_at hl 0 rfl) ?_
  refine lv_iload_n hx hb dX13_entryNumber_1 rfl (lv_at hl 2 rfl) ?_
  obtain ⟨q1, c1, h⟩ := x_call h
  refine xCall (w2 := MW cA h0 s0) (xRunV (n := 1) (As := [.int a2]) (rest := []) ⟨hx, hb, hml, hown, hts⟩ (kX13_placeOf l D cA h0 _ N a2 s0 q1 c1) qco_X13_placeOf qml_X13_91 qin_X13_placeOf qse_X13_placeOf qini_X13 (by decide +kernel) (by rw [← erm]; rfl) hK hP hD [0, 1, 2, 3, 4, 5, 6, 7] rfl rfl (q0 := 0) rfl rfl rfl rfl rfl hl.1 rfl (lv_room (Nat.le_of_ble_eq_true rfl)) dX13_entryNumber_2 ⟨Nat.zero_le _, Nat.zero_le _⟩) hP hD hS hA [0, 1, 2, 3, 4, 5, 6, 7] [] [0, 1, 2, 3, 4, 5, 6, 7] rfl (wr := []) rfl rfl rfl rfl rfl (fun H locs hP hD hS => ?_)
  refine lv_istore_n (lv' := [(3, .int q1), (0, .ref (h0 0)), (1, .int a1), (2, .int a2)]) hx hb dX13_entryNumber_5 rfl hl (by decide) rfl (fun ls hl => ?_)
  refine lv_iload_n hx hb dX13_entryNumber_6 rfl (lv_at hl 0 rfl) ?_
  refine lv_iconst (v := (-1)) hx hb dX13_entryNumber_7 (by decide) ?_
  obtain ⟨J31, eJ31, h⟩ := x_join h
  have hJ_J31 : ∀ (t0_2 : Int32) (s0_2 : MS) (H : Heap) (locs : List Loc), va_P D vwCl (MW cA h0 s0_2) H → va_D A (MW cA h0 s0_2) → va_S A s.heap H locs → ∀ ls : Array Slot, lv_has ls 4 [] → J31 t0_2 s0_2 = some q → W p l e rm s m ([.ref (h0 0), .int a1, .int a2] : List Value).toArray below meth c H locs 0 0 (MQ below (xQ D cA A (MW cA h0 q.2) (some (.int q.1))) ([.ref (h0 0), .int a1, .int a2] : List Value).toArray s 0 0 A) (F0 m 31 ls [.int t0_2]) := by
    clear h hP hD hS hl
    intro t0_2 s0_2 H locs hP hD hS ls hl h
    rw [eJ31] at h
    have h := Option.some.inj h
    subst h
    exact xIret hx hb hr hlocks hP hK hD hS dX13_entryNumber_31
  refine lv_icmp_ne (tgt := 19) hx hb dX13_entryNumber_8 (by decide) (fun c3 => ?_) (fun c3 => ?_)
  · have h := x_f h c3
    refine lv_aload_n hx hb dX13_entryNumber_19 rfl (lv_at hl 1 rfl) ?_
    refine lv_aload_n hx hb dX13_entryNumber_20 rfl (lv_at hl 1 rfl) ?_
    refine va_get (D := D) (ci := 12) (v := .ref (h0 1)) (C := RX13) (T := TX13) (N := 16) hx hb hts iX13 hown hK hP 0 rfl rfl 0 (by decide) (hts _ qfl_X13_7) (fun _ h9 => h9) rfl dX13_entryNumber_21 ?_
    refine lv_iload_n hx hb dX13_entryNumber_24 rfl (lv_at hl 2 rfl) ?_
    refine lv_iload_n hx hb dX13_entryNumber_25 rfl (lv_at hl 0 rfl) ?_
    refine lv_iadd hx hb dX13_entryNumber_26 ?_
    obtain ⟨k4, hk4, h⟩ := x_rd h
    refine xIald hx hb hK hP 1 0 rfl rfl hk4 dX13_entryNumber_27 ?_
    obtain ⟨q5, c5, h⟩ := x_call h
    refine xCall (w2 := MW cA h0 q5.2) (xRunV (n := 1) (As := [.int (s0.1 k4)]) (rest := []) ⟨hx, hb, hml, hown, hts⟩ (kX13_done l D cA h0 _ N (s0.1 k4) s0 q5 c5) qco_X13_done qml_X13_60 qin_X13_done qse_X13_done qini_X13 (by decide +kernel) (by rw [← erm]; rfl) hK hP hD [0, 1, 2, 3, 4, 5, 6, 7] rfl rfl (q0 := 0) rfl rfl rfl rfl rfl hl.1 rfl (lv_room (Nat.le_of_ble_eq_true rfl)) dX13_entryNumber_28 ⟨Nat.zero_le _, Nat.zero_le _⟩) hP hD hS hA [0, 1, 2, 3, 4, 5, 6, 7] [] [0, 1, 2, 3, 4, 5, 6, 7] rfl (wr := []) rfl rfl rfl rfl rfl (fun H locs hP hD hS => ?_)
    exact hJ_J31 q5.1 q5.2 _ _ hP hD hS _ (lv_sub hl [] rfl) h
  · have h := x_t h c3
    refine lv_aload_n hx hb dX13_entryNumber_11 rfl (lv_at hl 1 rfl) ?_
    refine lv_iconst (v := 1) hx hb dX13_entryNumber_12 (by decide) ?_
    obtain ⟨q6, c6, h⟩ := x_call h
    refine xCall (w2 := MW cA h0 q6.2) (xRunV (n := 1) (As := [.int 1]) (rest := []) ⟨hx, hb, hml, hown, hts⟩ (kX13_fails l D cA h0 _ N 1 s0 q6 c6) qco_X13_fails qml_X13_57 qin_X13_fails qse_X13_fails qini_X13 (by decide +kernel) (by rw [← erm]; rfl) hK hP hD [0, 1, 2, 3, 4, 5, 6, 7] rfl rfl (q0 := 0) rfl rfl rfl rfl rfl hl.1 rfl (lv_room (Nat.le_of_ble_eq_true rfl)) dX13_entryNumber_13 ⟨Nat.zero_le _, Nat.zero_le _⟩) hP hD hS hA [0, 1, 2, 3, 4, 5, 6, 7] [] [0, 1, 2, 3, 4, 5, 6, 7] rfl (wr := []) rfl rfl rfl rfl rfl (fun H locs hP hD hS => ?_)
    refine lv_goto (tgt := 31) hx hb dX13_entryNumber_16 (by decide) ?_
    exact hJ_J31 q6.1 q6.2 _ _ hP hD hS _ (lv_sub hl [] rfl) h
def fX13_debitOf (N : Nat) (a1 : Int32) (s0 : MS) : Option (Int32 × MS) :=
  xcall (fX13_entryNumber N 57 a1 s0) fun q1 =>
  some (q1.1, q1.2)
set_option maxRecDepth 100000 in
set_option maxHeartbeats 4000000 in
theorem kX13_debitOf (l : Launch) (D : va_G) (cA : Nat → ClassId) (h0 : Nat → Nat) (sz N : Nat) (a1 : Int32) (s0 : MS) (q : Int32 × MS) (h : fX13_debitOf N a1 s0 = some q) : xM l yX13_debitOf cX13_debitOf 2 (some .int) ({ frames := 3, cells := 0, slots := 0, locals := 67 }) D cA (MW cA h0 s0) sz [.ref (h0 0), .int a1] (some (.int q.1)) (MW cA h0 q.2) := by
  generalize erm : ({ frames := 3, cells := 0, slots := 0, locals := 67 } : Room) = rm
  refine xMet (by decide) (Nat.le_of_ble_eq_true rfl) ?_
  intro p e s m below meth c hx hb hr hlocks hml hts hown hin hK hP A eA hD hS hA hsz ls hl
  have hl : lv_has ls 2 [(0, .ref (h0 0)), (1, .int a1)] := hl
  clear eA
  rw [fX13_debitOf] at h
  refine lv_aload_n hx hb dX13_debitOf_0 rfl (lv_at hl 0 rfl) ?_
  refine lv_bipush (v := 57) hx hb dX13_debitOf_1 (by decide) ?_
  refine lv_iload_n hx hb dX13_debitOf_3 rfl (lv_at hl 1 rfl) ?_
  obtain ⟨q1, c1, h⟩ := x_call h
  refine xCall (w2 := MW cA h0 q1.2) (xRunV (n := 2) (As := [.int 57, .int a1]) (rest := []) ⟨hx, hb, hml, hown, hts⟩ (kX13_entryNumber l D cA h0 _ N 57 a1 s0 q1 c1) qco_X13_entryNumber qml_X13_178 qin_X13_entryNumber qse_X13_entryNumber qini_X13 (by decide +kernel) (by rw [← erm]; rfl) hK hP hD [0, 1, 2, 3, 4, 5, 6, 7] rfl rfl (q0 := 0) rfl rfl rfl rfl rfl hl.1 rfl (lv_room (Nat.le_of_ble_eq_true rfl)) dX13_debitOf_4 ⟨Nat.zero_le _, Nat.zero_le _⟩) hP hD hS hA [0, 1, 2, 3, 4, 5, 6, 7] [] [0, 1, 2, 3, 4, 5, 6, 7] rfl (wr := []) rfl rfl rfl rfl rfl (fun H locs hP hD hS => ?_)
  have h := Option.some.inj h
  subst h
  exact xIret hx hb hr hlocks hP hK hD hS dX13_debitOf_7
def fX13_creditOf (N : Nat) (a1 : Int32) (s0 : MS) : Option (Int32 × MS) :=
  xcall (fX13_entryNumber N 77 a1 s0) fun q1 =>
  some (q1.1, q1.2)
set_option maxRecDepth 100000 in
set_option maxHeartbeats 4000000 in
theorem kX13_creditOf (l : Launch) (D : va_G) (cA : Nat → ClassId) (h0 : Nat → Nat) (sz N : Nat) (a1 : Int32) (s0 : MS) (q : Int32 × MS) (h : fX13_creditOf N a1 s0 = some q) : xM l yX13_creditOf cX13_creditOf 2 (some .int) ({ frames := 3, cells := 0, slots := 0, locals := 67 }) D cA (MW cA h0 s0) sz [.ref (h0 0), .int a1] (some (.int q.1)) (MW cA h0 q.2) := by
  generalize erm : ({ frames := 3, cells := 0, slots := 0, locals := 67 } : Room) = rm
  refine xMet (by decide) (Nat.le_of_ble_eq_true rfl) ?_
  intro p e s m below meth c hx hb hr hlocks hml hts hown hin hK hP A eA hD hS hA hsz ls hl
  have hl : lv_has ls 2 [(0, .ref (h0 0)), (1, .int a1)] := hl
  clear eA
  rw [fX13_creditOf] at h
  refine lv_aload_n hx hb dX13_creditOf_0 rfl (lv_at hl 0 rfl) ?_
  refine lv_bipush (v := 77) hx hb dX13_creditOf_1 (by decide) ?_
  refine lv_iload_n hx hb dX13_creditOf_3 rfl (lv_at hl 1 rfl) ?_
  obtain ⟨q1, c1, h⟩ := x_call h
  refine xCall (w2 := MW cA h0 q1.2) (xRunV (n := 2) (As := [.int 77, .int a1]) (rest := []) ⟨hx, hb, hml, hown, hts⟩ (kX13_entryNumber l D cA h0 _ N 77 a1 s0 q1 c1) qco_X13_entryNumber qml_X13_178 qin_X13_entryNumber qse_X13_entryNumber qini_X13 (by decide +kernel) (by rw [← erm]; rfl) hK hP hD [0, 1, 2, 3, 4, 5, 6, 7] rfl rfl (q0 := 0) rfl rfl rfl rfl rfl hl.1 rfl (lv_room (Nat.le_of_ble_eq_true rfl)) dX13_creditOf_4 ⟨Nat.zero_le _, Nat.zero_le _⟩) hP hD hS hA [0, 1, 2, 3, 4, 5, 6, 7] [] [0, 1, 2, 3, 4, 5, 6, 7] rfl (wr := []) rfl rfl rfl rfl rfl (fun H locs hP hD hS => ?_)
  have h := Option.some.inj h
  subst h
  exact xIret hx hb hr hlocks hP hK hD hS dX13_creditOf_7
def fX13_amountOf (N : Nat) (a1 : Int32) (s0 : MS) : Option (Int64 × MS) :=
  xcall (fX13_entryNumber N 97 a1 s0) fun q1 =>
  some (q1.1.toInt64, q1.2)
set_option maxRecDepth 100000 in
set_option maxHeartbeats 4000000 in
theorem kX13_amountOf (l : Launch) (D : va_G) (cA : Nat → ClassId) (h0 : Nat → Nat) (sz N : Nat) (a1 : Int32) (s0 : MS) (q : Int64 × MS) (h : fX13_amountOf N a1 s0 = some q) : xM l yX13_amountOf cX13_amountOf 2 (some .long) ({ frames := 3, cells := 0, slots := 0, locals := 67 }) D cA (MW cA h0 s0) sz [.ref (h0 0), .int a1] (some (.long q.1)) (MW cA h0 q.2) := by
  generalize erm : ({ frames := 3, cells := 0, slots := 0, locals := 67 } : Room) = rm
  refine xMet (by decide) (Nat.le_of_ble_eq_true rfl) ?_
  intro p e s m below meth c hx hb hr hlocks hml hts hown hin hK hP A eA hD hS hA hsz ls hl
  have hl : lv_has ls 2 [(0, .ref (h0 0)), (1, .int a1)] := hl
  clear eA
  rw [fX13_amountOf] at h
  refine lv_aload_n hx hb dX13_amountOf_0 rfl (lv_at hl 0 rfl) ?_
  refine lv_bipush (v := 97) hx hb dX13_amountOf_1 (by decide) ?_
  refine lv_iload_n hx hb dX13_amountOf_3 rfl (lv_at hl 1 rfl) ?_
  obtain ⟨q1, c1, h⟩ := x_call h
  refine xCall (w2 := MW cA h0 q1.2) (xRunV (n := 2) (As := [.int 97, .int a1]) (rest := []) ⟨hx, hb, hml, hown, hts⟩ (kX13_entryNumber l D cA h0 _ N 97 a1 s0 q1 c1) qco_X13_entryNumber qml_X13_178 qin_X13_entryNumber qse_X13_entryNumber qini_X13 (by decide +kernel) (by rw [← erm]; rfl) hK hP hD [0, 1, 2, 3, 4, 5, 6, 7] rfl rfl (q0 := 0) rfl rfl rfl rfl rfl hl.1 rfl (lv_room (Nat.le_of_ble_eq_true rfl)) dX13_amountOf_4 ⟨Nat.zero_le _, Nat.zero_le _⟩) hP hD hS hA [0, 1, 2, 3, 4, 5, 6, 7] [] [0, 1, 2, 3, 4, 5, 6, 7] rfl (wr := []) rfl rfl rfl rfl rfl (fun H locs hP hD hS => ?_)
  refine lv_i2l hx hb dX13_amountOf_7 rfl ?_
  have h := Option.some.inj h
  subst h
  exact xLret hx hb hr hlocks hP hK hD hS dX13_amountOf_8
def fX13_hourOf (N : Nat) (a1 : Int32) (s0 : MS) : Option (Int32 × MS) :=
  xcall (fX13_entryNumber N 117 a1 s0) fun q1 =>
  some (q1.1, q1.2)
set_option maxRecDepth 100000 in
set_option maxHeartbeats 4000000 in
theorem kX13_hourOf (l : Launch) (D : va_G) (cA : Nat → ClassId) (h0 : Nat → Nat) (sz N : Nat) (a1 : Int32) (s0 : MS) (q : Int32 × MS) (h : fX13_hourOf N a1 s0 = some q) : xM l yX13_hourOf cX13_hourOf 2 (some .int) ({ frames := 3, cells := 0, slots := 0, locals := 67 }) D cA (MW cA h0 s0) sz [.ref (h0 0), .int a1] (some (.int q.1)) (MW cA h0 q.2) := by
  generalize erm : ({ frames := 3, cells := 0, slots := 0, locals := 67 } : Room) = rm
  refine xMet (by decide) (Nat.le_of_ble_eq_true rfl) ?_
  intro p e s m below meth c hx hb hr hlocks hml hts hown hin hK hP A eA hD hS hA hsz ls hl
  have hl : lv_has ls 2 [(0, .ref (h0 0)), (1, .int a1)] := hl
  clear eA
  rw [fX13_hourOf] at h
  refine lv_aload_n hx hb dX13_hourOf_0 rfl (lv_at hl 0 rfl) ?_
  refine lv_bipush (v := 117) hx hb dX13_hourOf_1 (by decide) ?_
  refine lv_iload_n hx hb dX13_hourOf_3 rfl (lv_at hl 1 rfl) ?_
  obtain ⟨q1, c1, h⟩ := x_call h
  refine xCall (w2 := MW cA h0 q1.2) (xRunV (n := 2) (As := [.int 117, .int a1]) (rest := []) ⟨hx, hb, hml, hown, hts⟩ (kX13_entryNumber l D cA h0 _ N 117 a1 s0 q1 c1) qco_X13_entryNumber qml_X13_178 qin_X13_entryNumber qse_X13_entryNumber qini_X13 (by decide +kernel) (by rw [← erm]; rfl) hK hP hD [0, 1, 2, 3, 4, 5, 6, 7] rfl rfl (q0 := 0) rfl rfl rfl rfl rfl hl.1 rfl (lv_room (Nat.le_of_ble_eq_true rfl)) dX13_hourOf_4 ⟨Nat.zero_le _, Nat.zero_le _⟩) hP hD hS hA [0, 1, 2, 3, 4, 5, 6, 7] [] [0, 1, 2, 3, 4, 5, 6, 7] rfl (wr := []) rfl rfl rfl rfl rfl (fun H locs hP hD hS => ?_)
  have h := Option.some.inj h
  subst h
  exact xIret hx hb hr hlocks hP hK hD hS dX13_hourOf_7
def fX13_isReversed (N : Nat) (a1 : Int32) (s0 : MS) : Option (Int32 × MS) :=
  xcall (fX13_entryNumber N 137 a1 s0) fun q1 =>
  xjoin (fun (t0_2 : Int32) (s0_2 : MS) =>
      xnz (xnar .boolean t0_2) <|
      some (t0_2, s0_2)
    ) fun J17 =>
  if q1.1 = 1 then
    J17 1 q1.2
  else
    J17 0 q1.2
set_option maxRecDepth 100000 in
set_option maxHeartbeats 4000000 in
theorem kX13_isReversed (l : Launch) (D : va_G) (cA : Nat → ClassId) (h0 : Nat → Nat) (sz N : Nat) (a1 : Int32) (s0 : MS) (q : Int32 × MS) (h : fX13_isReversed N a1 s0 = some q) : xM l yX13_isReversed cX13_isReversed 2 (some .boolean) ({ frames := 3, cells := 0, slots := 0, locals := 67 }) D cA (MW cA h0 s0) sz [.ref (h0 0), .int a1] (some (.int q.1)) (MW cA h0 q.2) := by
  generalize erm : ({ frames := 3, cells := 0, slots := 0, locals := 67 } : Room) = rm
  refine xMet (by decide) (Nat.le_of_ble_eq_true rfl) ?_
  intro p e s m below meth c hx hb hr hlocks hml hts hown hin hK hP A eA hD hS hA hsz ls hl
  have hl : lv_has ls 2 [(0, .ref (h0 0)), (1, .int a1)] := hl
  clear eA
  rw [fX13_isReversed] at h
  refine lv_aload_n hx hb dX13_isReversed_0 rfl (lv_at hl 0 rfl) ?_
  refine lv_sipush (v := 137) hx hb dX13_isReversed_1 (by decide) ?_
  refine lv_iload_n hx hb dX13_isReversed_4 rfl (lv_at hl 1 rfl) ?_
  obtain ⟨q1, c1, h⟩ := x_call h
  refine xCall (w2 := MW cA h0 q1.2) (xRunV (n := 2) (As := [.int 137, .int a1]) (rest := []) ⟨hx, hb, hml, hown, hts⟩ (kX13_entryNumber l D cA h0 _ N 137 a1 s0 q1 c1) qco_X13_entryNumber qml_X13_178 qin_X13_entryNumber qse_X13_entryNumber qini_X13 (by decide +kernel) (by rw [← erm]; rfl) hK hP hD [0, 1, 2, 3, 4, 5, 6, 7] rfl rfl (q0 := 0) rfl rfl rfl rfl rfl hl.1 rfl (lv_room (Nat.le_of_ble_eq_true rfl)) dX13_isReversed_5 ⟨Nat.zero_le _, Nat.zero_le _⟩) hP hD hS hA [0, 1, 2, 3, 4, 5, 6, 7] [] [0, 1, 2, 3, 4, 5, 6, 7] rfl (wr := []) rfl rfl rfl rfl rfl (fun H locs hP hD hS => ?_)
  refine lv_iconst (v := 1) hx hb dX13_isReversed_8 (by decide) ?_
  obtain ⟨J17, eJ17, h⟩ := x_join h
  have hJ_J17 : ∀ (t0_2 : Int32) (s0_2 : MS) (H : Heap) (locs : List Loc), va_P D vwCl (MW cA h0 s0_2) H → va_D A (MW cA h0 s0_2) → va_S A s.heap H locs → ∀ ls : Array Slot, lv_has ls 2 [] → J17 t0_2 s0_2 = some q → W p l e rm s m ([.ref (h0 0), .int a1] : List Value).toArray below meth c H locs 0 0 (MQ below (xQ D cA A (MW cA h0 q.2) (some (.int q.1))) ([.ref (h0 0), .int a1] : List Value).toArray s 0 0 A) (F0 m 17 ls [.int t0_2]) := by
    clear h hP hD hS hl
    intro t0_2 s0_2 H locs hP hD hS ls hl h
    rw [eJ17] at h
    obtain ⟨z3, h⟩ := x_nz h
    have h := Option.some.inj h
    subst h
    exact xZret hx hb hr hlocks (xnar_n z3) hP hK hD hS dX13_isReversed_17
  refine lv_icmp_ne (tgt := 16) hx hb dX13_isReversed_9 (by decide) (fun c4 => ?_) (fun c4 => ?_)
  · have h := x_f h c4
    refine lv_iconst (v := 0) hx hb dX13_isReversed_16 (by decide) ?_
    exact hJ_J17 0 q1.2 _ _ hP hD hS _ (lv_sub hl [] rfl) h
  · have h := x_t h c4
    refine lv_iconst (v := 1) hx hb dX13_isReversed_12 (by decide) ?_
    refine lv_goto (tgt := 17) hx hb dX13_isReversed_13 (by decide) ?_
    exact hJ_J17 1 q1.2 _ _ hP hD hS _ (lv_sub hl [] rfl) h
def fX13_promptCount (N : Nat)  (s0 : MS) : Option (Int32 × MS) :=
  xcall (fX13_done N (s0.1 4) s0) fun q1 =>
  some (q1.1, q1.2)
set_option maxRecDepth 100000 in
set_option maxHeartbeats 4000000 in
theorem kX13_promptCount (l : Launch) (D : va_G) (cA : Nat → ClassId) (h0 : Nat → Nat) (sz N : Nat)  (s0 : MS) (q : Int32 × MS) (h : fX13_promptCount N s0 = some q) : xM l yX13_promptCount cX13_promptCount 1 (some .int) ({ frames := 1, cells := 0, slots := 0, locals := 21 }) D cA (MW cA h0 s0) sz [.ref (h0 0)] (some (.int q.1)) (MW cA h0 q.2) := by
  generalize erm : ({ frames := 1, cells := 0, slots := 0, locals := 21 } : Room) = rm
  refine xMet (by decide) (Nat.le_of_ble_eq_true rfl) ?_
  intro p e s m below meth c hx hb hr hlocks hml hts hown hin hK hP A eA hD hS hA hsz ls hl
  have hl : lv_has ls 1 [(0, .ref (h0 0))] := hl
  clear eA
  rw [fX13_promptCount] at h
  refine lv_aload_n hx hb dX13_promptCount_0 rfl (lv_at hl 0 rfl) ?_
  refine lv_aload_n hx hb dX13_promptCount_1 rfl (lv_at hl 0 rfl) ?_
  refine va_get (D := D) (ci := 12) (v := .ref (h0 1)) (C := RX13) (T := TX13) (N := 16) hx hb hts iX13 hown hK hP 0 rfl rfl 0 (by decide) (hts _ qfl_X13_7) (fun _ h9 => h9) rfl dX13_promptCount_2 ?_
  refine lv_iconst (v := 4) hx hb dX13_promptCount_5 (by decide) ?_
  refine xIald hx hb hK hP 1 0 rfl rfl (x_lit (k := 4) (by decide)) dX13_promptCount_6 ?_
  obtain ⟨q1, c1, h⟩ := x_call h
  refine xCall (w2 := MW cA h0 q1.2) (xRunV (n := 1) (As := [.int (s0.1 4)]) (rest := []) ⟨hx, hb, hml, hown, hts⟩ (kX13_done l D cA h0 _ N (s0.1 4) s0 q1 c1) qco_X13_done qml_X13_60 qin_X13_done qse_X13_done qini_X13 (by decide +kernel) (by rw [← erm]; rfl) hK hP hD [0, 1, 2, 3, 4, 5, 6, 7] rfl rfl (q0 := 0) rfl rfl rfl rfl rfl hl.1 rfl (lv_room (Nat.le_of_ble_eq_true rfl)) dX13_promptCount_7 ⟨Nat.zero_le _, Nat.zero_le _⟩) hP hD hS hA [0, 1, 2, 3, 4, 5, 6, 7] [] [0, 1, 2, 3, 4, 5, 6, 7] rfl (wr := []) rfl rfl rfl rfl rfl (fun H locs hP hD hS => ?_)
  have h := Option.some.inj h
  subst h
  exact xIret hx hb hr hlocks hP hK hD hS dX13_promptCount_10
def fX13_waits (N : Nat) (a1 : Int32) (s0 : MS) : Option (Int32) :=
  xrd 229 (175 + a1) fun k1 =>
  xrd 229 (187 + a1) fun k2 =>
  some ((s0.1 k1) - ((s0.1 0) - (s0.1 k2)))
set_option maxRecDepth 100000 in
set_option maxHeartbeats 4000000 in
theorem kX13_waits (l : Launch) (D : va_G) (cA : Nat → ClassId) (h0 : Nat → Nat) (sz N : Nat) (a1 : Int32) (s0 : MS) (q : Int32) (h : fX13_waits N a1 s0 = some q) : xM l yX13_waits cX13_waits 2 (some .int) ({ frames := 0, cells := 0, slots := 0, locals := 0 }) D cA (MW cA h0 s0) sz [.ref (h0 0), .int a1] (some (.int q)) (MW cA h0 s0) := by
  generalize erm : ({ frames := 0, cells := 0, slots := 0, locals := 0 } : Room) = rm
  refine xMet (by decide) (Nat.le_of_ble_eq_true rfl) ?_
  intro p e s m below meth c hx hb hr hlocks hml hts hown hin hK hP A eA hD hS hA hsz ls hl
  have hl : lv_has ls 2 [(0, .ref (h0 0)), (1, .int a1)] := hl
  clear eA
  rw [fX13_waits] at h
  refine lv_aload_n hx hb dX13_waits_0 rfl (lv_at hl 0 rfl) ?_
  refine va_get (D := D) (ci := 12) (v := .ref (h0 1)) (C := RX13) (T := TX13) (N := 16) hx hb hts iX13 hown hK hP 0 rfl rfl 0 (by decide) (hts _ qfl_X13_7) (fun _ h9 => h9) rfl dX13_waits_1 ?_
  refine lv_sipush (v := 175) hx hb dX13_waits_4 (by decide) ?_
  refine lv_iload_n hx hb dX13_waits_7 rfl (lv_at hl 1 rfl) ?_
  refine lv_iadd hx hb dX13_waits_8 ?_
  obtain ⟨k1, hk1, h⟩ := x_rd h
  refine xIald hx hb hK hP 1 0 rfl rfl hk1 dX13_waits_9 ?_
  refine lv_aload_n hx hb dX13_waits_10 rfl (lv_at hl 0 rfl) ?_
  refine va_get (D := D) (ci := 12) (v := .ref (h0 1)) (C := RX13) (T := TX13) (N := 16) hx hb hts iX13 hown hK hP 0 rfl rfl 0 (by decide) (hts _ qfl_X13_7) (fun _ h9 => h9) rfl dX13_waits_11 ?_
  refine lv_iconst (v := 0) hx hb dX13_waits_14 (by decide) ?_
  refine xIald hx hb hK hP 1 0 rfl rfl (x_lit (k := 0) (by decide)) dX13_waits_15 ?_
  refine lv_aload_n hx hb dX13_waits_16 rfl (lv_at hl 0 rfl) ?_
  refine va_get (D := D) (ci := 12) (v := .ref (h0 1)) (C := RX13) (T := TX13) (N := 16) hx hb hts iX13 hown hK hP 0 rfl rfl 0 (by decide) (hts _ qfl_X13_7) (fun _ h9 => h9) rfl dX13_waits_17 ?_
  refine lv_sipush (v := 187) hx hb dX13_waits_20 (by decide) ?_
  refine lv_iload_n hx hb dX13_waits_23 rfl (lv_at hl 1 rfl) ?_
  refine lv_iadd hx hb dX13_waits_24 ?_
  obtain ⟨k2, hk2, h⟩ := x_rd h
  refine xIald hx hb hK hP 1 0 rfl rfl hk2 dX13_waits_25 ?_
  refine lv_isub hx hb dX13_waits_26 ?_
  refine lv_isub hx hb dX13_waits_27 ?_
  have h := Option.some.inj h
  subst h
  exact xIret hx hb hr hlocks hP hK hD hS dX13_waits_28
def fX13_hoursUntilPrompt (N : Nat) (a1 : Int32) (s0 : MS) : Option (Int32 × MS) :=
  xcall (fX13_isPrompt N a1 s0) fun q1 =>
  xjoin (fun (t0_2 : Int32) (s0_2 : MS) =>
      some (t0_2, s0_2)
    ) fun J25 =>
  if q1 = 0 then
    xcall (fX13_fails N 1 s0) fun q4 =>
    J25 q4.1 q4.2
  else
    xcall (fX13_waits N a1 s0) fun q5 =>
    xcall (fX13_done N q5 s0) fun q6 =>
    J25 q6.1 q6.2
set_option maxRecDepth 100000 in
set_option maxHeartbeats 4000000 in
theorem kX13_hoursUntilPrompt (l : Launch) (D : va_G) (cA : Nat → ClassId) (h0 : Nat → Nat) (sz N : Nat) (a1 : Int32) (s0 : MS) (q : Int32 × MS) (h : fX13_hoursUntilPrompt N a1 s0 = some q) : xM l yX13_hoursUntilPrompt cX13_hoursUntilPrompt 2 (some .int) ({ frames := 2, cells := 0, slots := 0, locals := 43 }) D cA (MW cA h0 s0) sz [.ref (h0 0), .int a1] (some (.int q.1)) (MW cA h0 q.2) := by
  generalize erm : ({ frames := 2, cells := 0, slots := 0, locals := 43 } : Room) = rm
  refine xMet (by decide) (Nat.le_of_ble_eq_true rfl) ?_
  intro p e s m below meth c hx hb hr hlocks hml hts hown hin hK hP A eA hD hS hA hsz ls hl
  have hl : lv_has ls 2 [(0, .ref (h0 0)), (1, .int a1)] := hl
  clear eA
  rw [fX13_hoursUntilPrompt] at h
  refine lv_aload_n hx hb dX13_hoursUntilPrompt_0 rfl (lv_at hl 0 rfl) ?_
  refine lv_iload_n hx hb dX13_hoursUntilPrompt_1 rfl (lv_at hl 1 rfl) ?_
  obtain ⟨q1, c1, h⟩ := x_call h
  refine xCall (w2 := MW cA h0 s0) (xRunV (n := 1) (As := [.int a1]) (rest := []) ⟨hx, hb, hml, hown, hts⟩ (kX13_isPrompt l D cA h0 _ N a1 s0 q1 c1) qco_X13_isPrompt qml_X13_101 qin_X13_isPrompt qse_X13_isPrompt qini_X13 (by decide +kernel) (by rw [← erm]; rfl) hK hP hD [0, 1, 2, 3, 4, 5, 6, 7] rfl rfl (q0 := 0) rfl rfl rfl rfl rfl hl.1 rfl (lv_room (Nat.le_of_ble_eq_true rfl)) dX13_hoursUntilPrompt_2 ⟨Nat.zero_le _, Nat.zero_le _⟩) hP hD hS hA [0, 1, 2, 3, 4, 5, 6, 7] [] [0, 1, 2, 3, 4, 5, 6, 7] rfl (wr := []) rfl rfl rfl rfl rfl (fun H locs hP hD hS => ?_)
  obtain ⟨J25, eJ25, h⟩ := x_join h
  have hJ_J25 : ∀ (t0_2 : Int32) (s0_2 : MS) (H : Heap) (locs : List Loc), va_P D vwCl (MW cA h0 s0_2) H → va_D A (MW cA h0 s0_2) → va_S A s.heap H locs → ∀ ls : Array Slot, lv_has ls 2 [] → J25 t0_2 s0_2 = some q → W p l e rm s m ([.ref (h0 0), .int a1] : List Value).toArray below meth c H locs 0 0 (MQ below (xQ D cA A (MW cA h0 q.2) (some (.int q.1))) ([.ref (h0 0), .int a1] : List Value).toArray s 0 0 A) (F0 m 25 ls [.int t0_2]) := by
    clear h hP hD hS hl
    intro t0_2 s0_2 H locs hP hD hS ls hl h
    rw [eJ25] at h
    have h := Option.some.inj h
    subst h
    exact xIret hx hb hr hlocks hP hK hD hS dX13_hoursUntilPrompt_25
  refine lv_if_eq (tgt := 20) hx hb dX13_hoursUntilPrompt_5 (by decide) (fun c3 => ?_) (fun c3 => ?_)
  · have h := x_t h c3
    refine lv_aload_n hx hb dX13_hoursUntilPrompt_20 rfl (lv_at hl 0 rfl) ?_
    refine lv_iconst (v := 1) hx hb dX13_hoursUntilPrompt_21 (by decide) ?_
    obtain ⟨q4, c4, h⟩ := x_call h
    refine xCall (w2 := MW cA h0 q4.2) (xRunV (n := 1) (As := [.int 1]) (rest := []) ⟨hx, hb, hml, hown, hts⟩ (kX13_fails l D cA h0 _ N 1 s0 q4 c4) qco_X13_fails qml_X13_57 qin_X13_fails qse_X13_fails qini_X13 (by decide +kernel) (by rw [← erm]; rfl) hK hP hD [0, 1, 2, 3, 4, 5, 6, 7] rfl rfl (q0 := 0) rfl rfl rfl rfl rfl hl.1 rfl (lv_room (Nat.le_of_ble_eq_true rfl)) dX13_hoursUntilPrompt_22 ⟨Nat.zero_le _, Nat.zero_le _⟩) hP hD hS hA [0, 1, 2, 3, 4, 5, 6, 7] [] [0, 1, 2, 3, 4, 5, 6, 7] rfl (wr := []) rfl rfl rfl rfl rfl (fun H locs hP hD hS => ?_)
    exact hJ_J25 q4.1 q4.2 _ _ hP hD hS _ (lv_sub hl [] rfl) h
  · have h := x_f h c3
    refine lv_aload_n hx hb dX13_hoursUntilPrompt_8 rfl (lv_at hl 0 rfl) ?_
    refine lv_aload_n hx hb dX13_hoursUntilPrompt_9 rfl (lv_at hl 0 rfl) ?_
    refine lv_iload_n hx hb dX13_hoursUntilPrompt_10 rfl (lv_at hl 1 rfl) ?_
    obtain ⟨q5, c5, h⟩ := x_call h
    refine xCall (w2 := MW cA h0 s0) (xRunV (n := 1) (As := [.int a1]) (rest := [.ref (h0 0)]) ⟨hx, hb, hml, hown, hts⟩ (kX13_waits l D cA h0 _ N a1 s0 q5 c5) qco_X13_waits qml_X13_181 qin_X13_waits qse_X13_waits qini_X13 (by decide +kernel) (by rw [← erm]; rfl) hK hP hD [0, 1, 2, 3, 4, 5, 6, 7] rfl rfl (q0 := 0) rfl rfl rfl rfl rfl hl.1 rfl (lv_room (Nat.le_of_ble_eq_true rfl)) dX13_hoursUntilPrompt_11 ⟨Nat.zero_le _, Nat.zero_le _⟩) hP hD hS hA [0, 1, 2, 3, 4, 5, 6, 7] [] [0, 1, 2, 3, 4, 5, 6, 7] rfl (wr := []) rfl rfl rfl rfl rfl (fun H locs hP hD hS => ?_)
    obtain ⟨q6, c6, h⟩ := x_call h
    refine xCall (w2 := MW cA h0 q6.2) (xRunV (n := 1) (As := [.int q5]) (rest := []) ⟨hx, hb, hml, hown, hts⟩ (kX13_done l D cA h0 _ N q5 s0 q6 c6) qco_X13_done qml_X13_60 qin_X13_done qse_X13_done qini_X13 (by decide +kernel) (by rw [← erm]; rfl) hK hP hD [0, 1, 2, 3, 4, 5, 6, 7] rfl rfl (q0 := 0) rfl rfl rfl rfl rfl hl.1 rfl (lv_room (Nat.le_of_ble_eq_true rfl)) dX13_hoursUntilPrompt_14 ⟨Nat.zero_le _, Nat.zero_le _⟩) hP hD hS hA [0, 1, 2, 3, 4, 5, 6, 7] [] [0, 1, 2, 3, 4, 5, 6, 7] rfl (wr := []) rfl rfl rfl rfl rfl (fun H locs hP hD hS => ?_)
    refine lv_goto (tgt := 25) hx hb dX13_hoursUntilPrompt_17 (by decide) ?_
    exact hJ_J25 q6.1 q6.2 _ _ hP hD hS _ (lv_sub hl [] rfl) h
def fX13_timesLeft (N : Nat) (a1 : Int32) (s0 : MS) : Option (Int32 × MS) :=
  xcall (fX13_isPrompt N a1 s0) fun q1 =>
  xjoin (fun (t0_2 : Int32) (s0_2 : MS) =>
      some (t0_2, s0_2)
    ) fun J30 =>
  if q1 = 0 then
    xcall (fX13_fails N 1 s0) fun q4 =>
    J30 q4.1 q4.2
  else
    xrd 229 (181 + a1) fun k5 =>
    xcall (fX13_done N (s0.1 k5) s0) fun q6 =>
    J30 q6.1 q6.2
set_option maxRecDepth 100000 in
set_option maxHeartbeats 4000000 in
theorem kX13_timesLeft (l : Launch) (D : va_G) (cA : Nat → ClassId) (h0 : Nat → Nat) (sz N : Nat) (a1 : Int32) (s0 : MS) (q : Int32 × MS) (h : fX13_timesLeft N a1 s0 = some q) : xM l yX13_timesLeft cX13_timesLeft 2 (some .int) ({ frames := 2, cells := 0, slots := 0, locals := 43 }) D cA (MW cA h0 s0) sz [.ref (h0 0), .int a1] (some (.int q.1)) (MW cA h0 q.2) := by
  generalize erm : ({ frames := 2, cells := 0, slots := 0, locals := 43 } : Room) = rm
  refine xMet (by decide) (Nat.le_of_ble_eq_true rfl) ?_
  intro p e s m below meth c hx hb hr hlocks hml hts hown hin hK hP A eA hD hS hA hsz ls hl
  have hl : lv_has ls 2 [(0, .ref (h0 0)), (1, .int a1)] := hl
  clear eA
  rw [fX13_timesLeft] at h
  refine lv_aload_n hx hb dX13_timesLeft_0 rfl (lv_at hl 0 rfl) ?_
  refine lv_iload_n hx hb dX13_timesLeft_1 rfl (lv_at hl 1 rfl) ?_
  obtain ⟨q1, c1, h⟩ := x_call h
  refine xCall (w2 := MW cA h0 s0) (xRunV (n := 1) (As := [.int a1]) (rest := []) ⟨hx, hb, hml, hown, hts⟩ (kX13_isPrompt l D cA h0 _ N a1 s0 q1 c1) qco_X13_isPrompt qml_X13_101 qin_X13_isPrompt qse_X13_isPrompt qini_X13 (by decide +kernel) (by rw [← erm]; rfl) hK hP hD [0, 1, 2, 3, 4, 5, 6, 7] rfl rfl (q0 := 0) rfl rfl rfl rfl rfl hl.1 rfl (lv_room (Nat.le_of_ble_eq_true rfl)) dX13_timesLeft_2 ⟨Nat.zero_le _, Nat.zero_le _⟩) hP hD hS hA [0, 1, 2, 3, 4, 5, 6, 7] [] [0, 1, 2, 3, 4, 5, 6, 7] rfl (wr := []) rfl rfl rfl rfl rfl (fun H locs hP hD hS => ?_)
  obtain ⟨J30, eJ30, h⟩ := x_join h
  have hJ_J30 : ∀ (t0_2 : Int32) (s0_2 : MS) (H : Heap) (locs : List Loc), va_P D vwCl (MW cA h0 s0_2) H → va_D A (MW cA h0 s0_2) → va_S A s.heap H locs → ∀ ls : Array Slot, lv_has ls 2 [] → J30 t0_2 s0_2 = some q → W p l e rm s m ([.ref (h0 0), .int a1] : List Value).toArray below meth c H locs 0 0 (MQ below (xQ D cA A (MW cA h0 q.2) (some (.int q.1))) ([.ref (h0 0), .int a1] : List Value).toArray s 0 0 A) (F0 m 30 ls [.int t0_2]) := by
    clear h hP hD hS hl
    intro t0_2 s0_2 H locs hP hD hS ls hl h
    rw [eJ30] at h
    have h := Option.some.inj h
    subst h
    exact xIret hx hb hr hlocks hP hK hD hS dX13_timesLeft_30
  refine lv_if_eq (tgt := 25) hx hb dX13_timesLeft_5 (by decide) (fun c3 => ?_) (fun c3 => ?_)
  · have h := x_t h c3
    refine lv_aload_n hx hb dX13_timesLeft_25 rfl (lv_at hl 0 rfl) ?_
    refine lv_iconst (v := 1) hx hb dX13_timesLeft_26 (by decide) ?_
    obtain ⟨q4, c4, h⟩ := x_call h
    refine xCall (w2 := MW cA h0 q4.2) (xRunV (n := 1) (As := [.int 1]) (rest := []) ⟨hx, hb, hml, hown, hts⟩ (kX13_fails l D cA h0 _ N 1 s0 q4 c4) qco_X13_fails qml_X13_57 qin_X13_fails qse_X13_fails qini_X13 (by decide +kernel) (by rw [← erm]; rfl) hK hP hD [0, 1, 2, 3, 4, 5, 6, 7] rfl rfl (q0 := 0) rfl rfl rfl rfl rfl hl.1 rfl (lv_room (Nat.le_of_ble_eq_true rfl)) dX13_timesLeft_27 ⟨Nat.zero_le _, Nat.zero_le _⟩) hP hD hS hA [0, 1, 2, 3, 4, 5, 6, 7] [] [0, 1, 2, 3, 4, 5, 6, 7] rfl (wr := []) rfl rfl rfl rfl rfl (fun H locs hP hD hS => ?_)
    exact hJ_J30 q4.1 q4.2 _ _ hP hD hS _ (lv_sub hl [] rfl) h
  · have h := x_f h c3
    refine lv_aload_n hx hb dX13_timesLeft_8 rfl (lv_at hl 0 rfl) ?_
    refine lv_aload_n hx hb dX13_timesLeft_9 rfl (lv_at hl 0 rfl) ?_
    refine va_get (D := D) (ci := 12) (v := .ref (h0 1)) (C := RX13) (T := TX13) (N := 16) hx hb hts iX13 hown hK hP 0 rfl rfl 0 (by decide) (hts _ qfl_X13_7) (fun _ h9 => h9) rfl dX13_timesLeft_10 ?_
    refine lv_sipush (v := 181) hx hb dX13_timesLeft_13 (by decide) ?_
    refine lv_iload_n hx hb dX13_timesLeft_16 rfl (lv_at hl 1 rfl) ?_
    refine lv_iadd hx hb dX13_timesLeft_17 ?_
    obtain ⟨k5, hk5, h⟩ := x_rd h
    refine xIald hx hb hK hP 1 0 rfl rfl hk5 dX13_timesLeft_18 ?_
    obtain ⟨q6, c6, h⟩ := x_call h
    refine xCall (w2 := MW cA h0 q6.2) (xRunV (n := 1) (As := [.int (s0.1 k5)]) (rest := []) ⟨hx, hb, hml, hown, hts⟩ (kX13_done l D cA h0 _ N (s0.1 k5) s0 q6 c6) qco_X13_done qml_X13_60 qin_X13_done qse_X13_done qini_X13 (by decide +kernel) (by rw [← erm]; rfl) hK hP hD [0, 1, 2, 3, 4, 5, 6, 7] rfl rfl (q0 := 0) rfl rfl rfl rfl rfl hl.1 rfl (lv_room (Nat.le_of_ble_eq_true rfl)) dX13_timesLeft_19 ⟨Nat.zero_le _, Nat.zero_le _⟩) hP hD hS hA [0, 1, 2, 3, 4, 5, 6, 7] [] [0, 1, 2, 3, 4, 5, 6, 7] rfl (wr := []) rfl rfl rfl rfl rfl (fun H locs hP hD hS => ?_)
    refine lv_goto (tgt := 30) hx hb dX13_timesLeft_22 (by decide) ?_
    exact hJ_J30 q6.1 q6.2 _ _ hP hD hS _ (lv_sub hl [] rfl) h
def fX13_cashIn_L25 (N : Nat) (K174 : Int32 → MS → Option (Int64 × MS)) : Nat → Int32 → Int32 → Int32 → MS → Option (Int64 × MS)
  | 0, _, _, _, _ => none
  | n + 1, v1_6, v2_6, v3_6, s0_6 =>
    if (s0_6.1 4) ≤ v3_6 then
      K174 v2_6 s0_6
    else
      xcall (fX13_waits N v3_6 s0_6) fun q8 =>
      xjoin (fun (t0_9 : Int32) (v1_9 : Int32) (v2_9 : Int32) (v3_9 : Int32) (s0_9 : MS) =>
          xrd 229 (181 + v3_9) fun k10 =>
          xjoin (fun (t0_11 : Int32) (v1_11 : Int32) (v2_11 : Int32) (v3_11 : Int32) (s0_11 : MS) =>
              xrd 229 (157 + v3_11) fun k12 =>
              xjoin (fun (t0_13 : Int32) (t1_13 : Int32) (v1_13 : Int32) (v3_13 : Int32) (v4_13 : Int32) (s0_13 : MS) =>
                  xlet (t1_13 + t0_13) fun x14 =>
                  xrd 229 (163 + v3_13) fun k15 =>
                  xjoin (fun (t0_16 : Int32) (t1_16 : Int32) (v1_16 : Int32) (v3_16 : Int32) (s0_16 : MS) =>
                      xlet (t1_16 - t0_16) fun x17 =>
                      xlet (v3_16 + (1)) fun x18 =>
                      fX13_cashIn_L25 N K174 n v1_16 x17 x18 s0_16
                    ) fun J166 =>
                  if (s0_13.1 k15) = 0 then
                    xrd 229 (169 + v3_13) fun k20 =>
                    J166 (v4_13 * (s0_13.1 k20)) x14 v1_13 v3_13 s0_13
                  else
                    J166 0 x14 v1_13 v3_13 s0_13
                ) fun J133 =>
              if (s0_11.1 k12) = 0 then
                xrd 229 (169 + v3_11) fun k22 =>
                J133 (t0_11 * (s0_11.1 k22)) v2_11 v1_11 v3_11 t0_11 s0_11
              else
                J133 0 v2_11 v1_11 v3_11 t0_11 s0_11
            ) fun J100 =>
          if (s0_9.1 k10) ≤ t0_9 then
            xrd 229 (181 + v3_9) fun k24 =>
            J100 (s0_9.1 k24) v1_9 v2_9 v3_9 s0_9
          else
            J100 t0_9 v1_9 v2_9 v3_9 s0_9
        ) fun J68 =>
      if q8 ≤ v1_6 then
        xcall (fX13_waits N v3_6 s0_6) fun q26 =>
        xrd 229 (175 + v3_6) fun k27 =>
        xnz (decide (¬ (s0_6.1 k27) = 0)) <|
        J68 (1 + ((v1_6 - q26) / (s0_6.1 k27))) v1_6 v2_6 v3_6 s0_6
      else
        J68 0 v1_6 v2_6 v3_6 s0_6
def fX13_cashIn (N : Nat) (a1 : Int32) (s0 : MS) : Option (Int64 × MS) :=
  xcall (fX13_in N a1 0 24) fun q1 =>
  if q1 = 0 then
    xcall (fX13_fails N 1 s0) fun q29 =>
    some (q29.1.toInt64, q29.2)
  else
    xcall (fX13_balanceOf N 0 s0) fun q3 =>
    xjoin (fun (v2_4 : Int32) (s0_4 : MS) =>
        xcall (fX13_done N v2_4 s0_4) fun q5 =>
        some (q5.1.toInt64, q5.2)
      ) fun K174 =>
    fX13_cashIn_L25 N K174 N a1 q3 0 s0
set_option maxRecDepth 100000 in
set_option maxHeartbeats 4000000 in
theorem kX13_cashIn (l : Launch) (D : va_G) (cA : Nat → ClassId) (h0 : Nat → Nat) (sz N : Nat) (a1 : Int32) (s0 : MS) (q : Int64 × MS) (h : fX13_cashIn N a1 s0 = some q) : xM l yX13_cashIn cX13_cashIn 5 (some .long) ({ frames := 1, cells := 0, slots := 0, locals := 22 }) D cA (MW cA h0 s0) sz [.ref (h0 0), .int a1] (some (.long q.1)) (MW cA h0 q.2) := by
  generalize erm : ({ frames := 1, cells := 0, slots := 0, locals := 22 } : Room) = rm
  refine xMet (by decide) (Nat.le_of_ble_eq_true rfl) ?_
  intro p e s m below meth c hx hb hr hlocks hml hts hown hin hK hP A eA hD hS hA hsz ls hl
  have hl : lv_has ls 5 [(0, .ref (h0 0)), (1, .int a1)] := hl
  clear eA
  rw [fX13_cashIn] at h
  refine lv_iload_n hx hb dX13_cashIn_0 rfl (lv_at hl 1 rfl) ?_
  refine lv_iconst (v := 0) hx hb dX13_cashIn_1 (by decide) ?_
  refine lv_bipush (v := 24) hx hb dX13_cashIn_2 (by decide) ?_
  obtain ⟨q1, c1, h⟩ := x_call h
  refine xCall (w2 := MW cA h0 s0) (xRunS (n := 3) (As := [.int a1, .int 0, .int 24]) (rest := []) ⟨hx, hb, hml, hown, hts⟩ (kX13_in l D cA  _ N a1 0 24 q1 c1) qco_X13_in qml_X13_49 qst_X13_in qini_X13 (by decide +kernel) (by rw [← erm]; rfl) hK hP hD [] rfl rfl rfl rfl hl.1 rfl (lv_room (Nat.le_of_ble_eq_true rfl)) dX13_cashIn_4 ⟨Nat.zero_le _, Nat.zero_le _⟩) hP hD hS hA [] [0, 1, 2, 3, 4, 5, 6, 7] [0, 1, 2, 3, 4, 5, 6, 7] rfl (wr := [(h0 0, .inr (12, [.ref (h0 1), .ref (h0 2), .ref (h0 3), .int (s0.2.2.2.1), .ref (h0 4), .int (s0.2.2.2.2.2.1), .ref (h0 5), .int (s0.2.2.2.2.2.2.2.1), .int (s0.2.2.2.2.2.2.2.2.1), .int (s0.2.2.2.2.2.2.2.2.2.1), .ref (h0 6), .int (s0.2.2.2.2.2.2.2.2.2.2.2.1), .int (s0.2.2.2.2.2.2.2.2.2.2.2.2.1), .int (s0.2.2.2.2.2.2.2.2.2.2.2.2.2.1), .int (s0.2.2.2.2.2.2.2.2.2.2.2.2.2.2.1), .ref (h0 7)])), (h0 1, .inl (cA 0, 229, .inl (s0.1))), (h0 2, .inl (cA 0, 229, .inl (s0.2.1))), (h0 3, .inl (cA 0, 1832, .inl (s0.2.2.1))), (h0 4, .inl (cA 0, 229, .inl (s0.2.2.2.2.1))), (h0 5, .inl (cA 1, 60, .inl (s0.2.2.2.2.2.2.1))), (h0 6, .inl (cA 1, 60, .inl (s0.2.2.2.2.2.2.2.2.2.2.1))), (h0 7, .inl (cA 0, 240, .inl (s0.2.2.2.2.2.2.2.2.2.2.2.2.2.2.2)))]) rfl rfl rfl rfl rfl (fun H locs hP hD hS => ?_)
  refine lv_if_ne (tgt := 17) hx hb dX13_cashIn_7 (by decide) (fun c2 => ?_) (fun c2 => ?_)
  · have h := x_f h c2
    refine lv_aload_n hx hb dX13_cashIn_17 rfl (lv_at hl 0 rfl) ?_
    refine lv_iconst (v := 0) hx hb dX13_cashIn_18 (by decide) ?_
    obtain ⟨q3, c3, h⟩ := x_call h
    refine xCall (w2 := MW cA h0 s0) (xRunV (n := 1) (As := [.int 0]) (rest := []) ⟨hx, hb, hml, hown, hts⟩ (kX13_balanceOf l D cA h0 _ N 0 s0 q3 c3) qco_X13_balanceOf qml_X13_53 qin_X13_balanceOf qse_X13_balanceOf qini_X13 (by decide +kernel) (by rw [← erm]; rfl) hK hP hD [0, 1, 2, 3, 4, 5, 6, 7] rfl rfl (q0 := 0) rfl rfl rfl rfl rfl hl.1 rfl (lv_room (Nat.le_of_ble_eq_true rfl)) dX13_cashIn_19 ⟨Nat.zero_le _, Nat.zero_le _⟩) hP hD hS hA [0, 1, 2, 3, 4, 5, 6, 7] [] [0, 1, 2, 3, 4, 5, 6, 7] rfl (wr := []) rfl rfl rfl rfl rfl (fun H locs hP hD hS => ?_)
    refine lv_istore_n (lv' := [(2, .int q3), (0, .ref (h0 0)), (1, .int a1)]) hx hb dX13_cashIn_22 rfl hl (by decide) rfl (fun ls hl => ?_)
    refine lv_iconst (v := 0) hx hb dX13_cashIn_23 (by decide) ?_
    refine lv_istore_n (lv' := [(3, .int 0), (2, .int q3), (0, .ref (h0 0)), (1, .int a1)]) hx hb dX13_cashIn_24 rfl hl (by decide) rfl (fun ls hl => ?_)
    obtain ⟨K174, eK174, h⟩ := x_join h
    have hJ_K174 : ∀ (v2_4 : Int32) (s0_4 : MS) (H : Heap) (locs : List Loc), va_P D vwCl (MW cA h0 s0_4) H → va_D A (MW cA h0 s0_4) → va_S A s.heap H locs → ∀ ls : Array Slot, lv_has ls 5 [(0, .ref (h0 0)), (2, .int v2_4)] → K174 v2_4 s0_4 = some q → W p l e rm s m ([.ref (h0 0), .int a1] : List Value).toArray below meth c H locs 0 0 (MQ below (xQ D cA A (MW cA h0 q.2) (some (.long q.1))) ([.ref (h0 0), .int a1] : List Value).toArray s 0 0 A) (F0 m 174 ls []) := by
      clear h hP hD hS hl
      intro v2_4 s0_4 H locs hP hD hS ls hl h
      rw [eK174] at h
      refine lv_aload_n hx hb dX13_cashIn_174 rfl (lv_at hl 0 rfl) ?_
      refine lv_iload_n hx hb dX13_cashIn_175 rfl (lv_at hl 1 rfl) ?_
      obtain ⟨q5, c5, h⟩ := x_call h
      refine xCall (w2 := MW cA h0 q5.2) (xRunV (n := 1) (As := [.int v2_4]) (rest := []) ⟨hx, hb, hml, hown, hts⟩ (kX13_done l D cA h0 _ N v2_4 s0_4 q5 c5) qco_X13_done qml_X13_60 qin_X13_done qse_X13_done qini_X13 (by decide +kernel) (by rw [← erm]; rfl) hK hP hD [0, 1, 2, 3, 4, 5, 6, 7] rfl rfl (q0 := 0) rfl rfl rfl rfl rfl hl.1 rfl (lv_room (Nat.le_of_ble_eq_true rfl)) dX13_cashIn_176 ⟨Nat.zero_le _, Nat.zero_le _⟩) hP hD hS hA [0, 1, 2, 3, 4, 5, 6, 7] [] [0, 1, 2, 3, 4, 5, 6, 7] rfl (wr := []) rfl rfl rfl rfl rfl (fun H locs hP hD hS => ?_)
      refine lv_i2l hx hb dX13_cashIn_179 rfl ?_
      have h := Option.some.inj h
      subst h
      exact xLret hx hb hr hlocks hP hK hD hS dX13_cashIn_180
    have hL25 : ∀ (n : Nat) (v1_6 : Int32) (v2_6 : Int32) (v3_6 : Int32) (s0_6 : MS) (H : Heap) (locs : List Loc), va_P D vwCl (MW cA h0 s0_6) H → va_D A (MW cA h0 s0_6) → va_S A s.heap H locs → ∀ ls : Array Slot, lv_has ls 5 [(0, .ref (h0 0)), (1, .int v1_6), (2, .int v2_6), (3, .int v3_6)] → fX13_cashIn_L25 N K174 n v1_6 v2_6 v3_6 s0_6 = some q → W p l e rm s m ([.ref (h0 0), .int a1] : List Value).toArray below meth c H locs 0 0 (MQ below (xQ D cA A (MW cA h0 q.2) (some (.long q.1))) ([.ref (h0 0), .int a1] : List Value).toArray s 0 0 A) (F0 m 25 ls []) := by
      clear h hP hD hS hl
      intro n
      induction n with
      | zero => intro v1_6 v2_6 v3_6 s0_6 H locs hP hD hS ls hl h; rw [fX13_cashIn_L25] at h; cases h
      | succ n ih =>
        intro v1_6 v2_6 v3_6 s0_6 H locs hP hD hS ls hl h
        rw [fX13_cashIn_L25] at h
        refine lv_iload_n hx hb dX13_cashIn_25 rfl (lv_at hl 3 rfl) ?_
        refine lv_aload_n hx hb dX13_cashIn_26 rfl (lv_at hl 0 rfl) ?_
        refine va_get (D := D) (ci := 12) (v := .ref (h0 1)) (C := RX13) (T := TX13) (N := 16) hx hb hts iX13 hown hK hP 0 rfl rfl 0 (by decide) (hts _ qfl_X13_7) (fun _ h9 => h9) rfl dX13_cashIn_27 ?_
        refine lv_iconst (v := 4) hx hb dX13_cashIn_30 (by decide) ?_
        refine xIald hx hb hK hP 1 0 rfl rfl (x_lit (k := 4) (by decide)) dX13_cashIn_31 ?_
        refine lv_icmp_ge (tgt := 174) hx hb dX13_cashIn_32 (by decide) (fun c7 => ?_) (fun c7 => ?_)
        · have h := x_t h c7
          exact hJ_K174 v2_6 s0_6 _ _ hP hD hS _ (lv_sub hl [0, 2] rfl) h
        · have h := x_f h c7
          refine lv_iload_n hx hb dX13_cashIn_35 rfl (lv_at hl 1 rfl) ?_
          refine lv_aload_n hx hb dX13_cashIn_36 rfl (lv_at hl 0 rfl) ?_
          refine lv_iload_n hx hb dX13_cashIn_37 rfl (lv_at hl 3 rfl) ?_
          obtain ⟨q8, c8, h⟩ := x_call h
          refine xCall (w2 := MW cA h0 s0_6) (xRunV (n := 1) (As := [.int v3_6]) (rest := [.int v1_6]) ⟨hx, hb, hml, hown, hts⟩ (kX13_waits l D cA h0 _ N v3_6 s0_6 q8 c8) qco_X13_waits qml_X13_181 qin_X13_waits qse_X13_waits qini_X13 (by decide +kernel) (by rw [← erm]; rfl) hK hP hD [0, 1, 2, 3, 4, 5, 6, 7] rfl rfl (q0 := 0) rfl rfl rfl rfl rfl hl.1 rfl (lv_room (Nat.le_of_ble_eq_true rfl)) dX13_cashIn_38 ⟨Nat.zero_le _, Nat.zero_le _⟩) hP hD hS hA [0, 1, 2, 3, 4, 5, 6, 7] [] [0, 1, 2, 3, 4, 5, 6, 7] rfl (wr := []) rfl rfl rfl rfl rfl (fun H locs hP hD hS => ?_)
          obtain ⟨J68, eJ68, h⟩ := x_join h
          have hJ_J68 : ∀ (t0_9 : Int32) (v1_9 : Int32) (v2_9 : Int32) (v3_9 : Int32) (s0_9 : MS) (H : Heap) (locs : List Loc), va_P D vwCl (MW cA h0 s0_9) H → va_D A (MW cA h0 s0_9) → va_S A s.heap H locs → ∀ ls : Array Slot, lv_has ls 5 [(0, .ref (h0 0)), (1, .int v1_9), (2, .int v2_9), (3, .int v3_9)] → J68 t0_9 v1_9 v2_9 v3_9 s0_9 = some q → W p l e rm s m ([.ref (h0 0), .int a1] : List Value).toArray below meth c H locs 0 0 (MQ below (xQ D cA A (MW cA h0 q.2) (some (.long q.1))) ([.ref (h0 0), .int a1] : List Value).toArray s 0 0 A) (F0 m 68 ls [.int t0_9]) := by
            clear h hP hD hS hl
            intro t0_9 v1_9 v2_9 v3_9 s0_9 H locs hP hD hS ls hl h
            rw [eJ68] at h
            refine lv_istore (lv' := [(4, .int t0_9), (0, .ref (h0 0)), (1, .int v1_9), (2, .int v2_9), (3, .int v3_9)]) hx hb dX13_cashIn_68 hl (by decide) rfl (fun ls hl => ?_)
            refine lv_iload hx hb dX13_cashIn_70 (lv_at hl 0 rfl) ?_
            refine lv_aload_n hx hb dX13_cashIn_72 rfl (lv_at hl 1 rfl) ?_
            refine va_get (D := D) (ci := 12) (v := .ref (h0 1)) (C := RX13) (T := TX13) (N := 16) hx hb hts iX13 hown hK hP 0 rfl rfl 0 (by decide) (hts _ qfl_X13_7) (fun _ h9 => h9) rfl dX13_cashIn_73 ?_
            refine lv_sipush (v := 181) hx hb dX13_cashIn_76 (by decide) ?_
            refine lv_iload_n hx hb dX13_cashIn_79 rfl (lv_at hl 4 rfl) ?_
            refine lv_iadd hx hb dX13_cashIn_80 ?_
            obtain ⟨k10, hk10, h⟩ := x_rd h
            refine xIald hx hb hK hP 1 0 rfl rfl hk10 dX13_cashIn_81 ?_
            obtain ⟨J100, eJ100, h⟩ := x_join h
            have hJ_J100 : ∀ (t0_11 : Int32) (v1_11 : Int32) (v2_11 : Int32) (v3_11 : Int32) (s0_11 : MS) (H : Heap) (locs : List Loc), va_P D vwCl (MW cA h0 s0_11) H → va_D A (MW cA h0 s0_11) → va_S A s.heap H locs → ∀ ls : Array Slot, lv_has ls 5 [(0, .ref (h0 0)), (1, .int v1_11), (2, .int v2_11), (3, .int v3_11)] → J100 t0_11 v1_11 v2_11 v3_11 s0_11 = some q → W p l e rm s m ([.ref (h0 0), .int a1] : List Value).toArray below meth c H locs 0 0 (MQ below (xQ D cA A (MW cA h0 q.2) (some (.long q.1))) ([.ref (h0 0), .int a1] : List Value).toArray s 0 0 A) (F0 m 100 ls [.int t0_11]) := by
              clear h hP hD hS hl
              intro t0_11 v1_11 v2_11 v3_11 s0_11 H locs hP hD hS ls hl h
              rw [eJ100] at h
              refine lv_istore (lv' := [(4, .int t0_11), (0, .ref (h0 0)), (1, .int v1_11), (2, .int v2_11), (3, .int v3_11)]) hx hb dX13_cashIn_100 hl (by decide) rfl (fun ls hl => ?_)
              refine lv_iload_n hx hb dX13_cashIn_102 rfl (lv_at hl 3 rfl) ?_
              refine lv_aload_n hx hb dX13_cashIn_103 rfl (lv_at hl 1 rfl) ?_
              refine va_get (D := D) (ci := 12) (v := .ref (h0 1)) (C := RX13) (T := TX13) (N := 16) hx hb hts iX13 hown hK hP 0 rfl rfl 0 (by decide) (hts _ qfl_X13_7) (fun _ h9 => h9) rfl dX13_cashIn_104 ?_
              refine lv_sipush (v := 157) hx hb dX13_cashIn_107 (by decide) ?_
              refine lv_iload_n hx hb dX13_cashIn_110 rfl (lv_at hl 4 rfl) ?_
              refine lv_iadd hx hb dX13_cashIn_111 ?_
              obtain ⟨k12, hk12, h⟩ := x_rd h
              refine xIald hx hb hK hP 1 0 rfl rfl hk12 dX13_cashIn_112 ?_
              obtain ⟨J133, eJ133, h⟩ := x_join h
              have hJ_J133 : ∀ (t0_13 : Int32) (t1_13 : Int32) (v1_13 : Int32) (v3_13 : Int32) (v4_13 : Int32) (s0_13 : MS) (H : Heap) (locs : List Loc), va_P D vwCl (MW cA h0 s0_13) H → va_D A (MW cA h0 s0_13) → va_S A s.heap H locs → ∀ ls : Array Slot, lv_has ls 5 [(0, .ref (h0 0)), (1, .int v1_13), (3, .int v3_13), (4, .int v4_13)] → J133 t0_13 t1_13 v1_13 v3_13 v4_13 s0_13 = some q → W p l e rm s m ([.ref (h0 0), .int a1] : List Value).toArray below meth c H locs 0 0 (MQ below (xQ D cA A (MW cA h0 q.2) (some (.long q.1))) ([.ref (h0 0), .int a1] : List Value).toArray s 0 0 A) (F0 m 133 ls [.int t0_13, .int t1_13]) := by
                clear h hP hD hS hl
                intro t0_13 t1_13 v1_13 v3_13 v4_13 s0_13 H locs hP hD hS ls hl h
                rw [eJ133] at h
                refine lv_iadd hx hb dX13_cashIn_133 ?_
                refine lv_topi (fun x14 ex14 => ?_)
                have h := x_let h ex14
                refine lv_istore_n (lv' := [(2, .int x14), (0, .ref (h0 0)), (1, .int v1_13), (3, .int v3_13), (4, .int v4_13)]) hx hb dX13_cashIn_134 rfl hl (by decide) rfl (fun ls hl => ?_)
                refine lv_iload_n hx hb dX13_cashIn_135 rfl (lv_at hl 0 rfl) ?_
                refine lv_aload_n hx hb dX13_cashIn_136 rfl (lv_at hl 1 rfl) ?_
                refine va_get (D := D) (ci := 12) (v := .ref (h0 1)) (C := RX13) (T := TX13) (N := 16) hx hb hts iX13 hown hK hP 0 rfl rfl 0 (by decide) (hts _ qfl_X13_7) (fun _ h9 => h9) rfl dX13_cashIn_137 ?_
                refine lv_sipush (v := 163) hx hb dX13_cashIn_140 (by decide) ?_
                refine lv_iload_n hx hb dX13_cashIn_143 rfl (lv_at hl 3 rfl) ?_
                refine lv_iadd hx hb dX13_cashIn_144 ?_
                obtain ⟨k15, hk15, h⟩ := x_rd h
                refine xIald hx hb hK hP 1 0 rfl rfl hk15 dX13_cashIn_145 ?_
                obtain ⟨J166, eJ166, h⟩ := x_join h
                have hJ_J166 : ∀ (t0_16 : Int32) (t1_16 : Int32) (v1_16 : Int32) (v3_16 : Int32) (s0_16 : MS) (H : Heap) (locs : List Loc), va_P D vwCl (MW cA h0 s0_16) H → va_D A (MW cA h0 s0_16) → va_S A s.heap H locs → ∀ ls : Array Slot, lv_has ls 5 [(0, .ref (h0 0)), (1, .int v1_16), (3, .int v3_16)] → J166 t0_16 t1_16 v1_16 v3_16 s0_16 = some q → W p l e rm s m ([.ref (h0 0), .int a1] : List Value).toArray below meth c H locs 0 0 (MQ below (xQ D cA A (MW cA h0 q.2) (some (.long q.1))) ([.ref (h0 0), .int a1] : List Value).toArray s 0 0 A) (F0 m 166 ls [.int t0_16, .int t1_16]) := by
                  clear h hP hD hS hl
                  intro t0_16 t1_16 v1_16 v3_16 s0_16 H locs hP hD hS ls hl h
                  rw [eJ166] at h
                  refine lv_isub hx hb dX13_cashIn_166 ?_
                  refine lv_topi (fun x17 ex17 => ?_)
                  have h := x_let h ex17
                  refine lv_istore_n (lv' := [(2, .int x17), (0, .ref (h0 0)), (1, .int v1_16), (3, .int v3_16)]) hx hb dX13_cashIn_167 rfl hl (by decide) rfl (fun ls hl => ?_)
                  obtain ⟨x18, ex18⟩ : ∃ y : Int32, y = v3_16 + (1) := ⟨_, rfl⟩
                  have h := x_let h ex18
                  refine lv_iinc (v := x18) (lv' := [(3, .int x18), (2, .int x17), (0, .ref (h0 0)), (1, .int v1_16)]) hx hb dX13_cashIn_168 hl (k := 3) rfl (by rw [ex18]; rfl) (by decide) rfl (fun ls hl => ?_)
                  refine lv_goto (tgt := 25) hx hb dX13_cashIn_171 (by decide) ?_
                  exact ih v1_16 x17 x18 s0_16 _ _ hP hD hS _ (lv_sub hl [2, 3, 1, 0] rfl) h
                refine lv_if_ne (tgt := 165) hx hb dX13_cashIn_146 (by decide) (fun c19 => ?_) (fun c19 => ?_)
                · have h := x_f h c19
                  refine lv_iconst (v := 0) hx hb dX13_cashIn_165 (by decide) ?_
                  exact hJ_J166 0 x14 v1_13 v3_13 s0_13 _ _ hP hD hS _ (lv_sub hl [1, 2, 3] rfl) h
                · have h := x_t h c19
                  refine lv_iload hx hb dX13_cashIn_149 (lv_at hl 4 rfl) ?_
                  refine lv_aload_n hx hb dX13_cashIn_151 rfl (lv_at hl 1 rfl) ?_
                  refine va_get (D := D) (ci := 12) (v := .ref (h0 1)) (C := RX13) (T := TX13) (N := 16) hx hb hts iX13 hown hK hP 0 rfl rfl 0 (by decide) (hts _ qfl_X13_7) (fun _ h9 => h9) rfl dX13_cashIn_152 ?_
                  refine lv_sipush (v := 169) hx hb dX13_cashIn_155 (by decide) ?_
                  refine lv_iload_n hx hb dX13_cashIn_158 rfl (lv_at hl 3 rfl) ?_
                  refine lv_iadd hx hb dX13_cashIn_159 ?_
                  obtain ⟨k20, hk20, h⟩ := x_rd h
                  refine xIald hx hb hK hP 1 0 rfl rfl hk20 dX13_cashIn_160 ?_
                  refine lv_imul hx hb dX13_cashIn_161 ?_
                  refine lv_goto (tgt := 166) hx hb dX13_cashIn_162 (by decide) ?_
                  exact hJ_J166 (v4_13 * (s0_13.1 k20)) x14 v1_13 v3_13 s0_13 _ _ hP hD hS _ (lv_sub hl [1, 2, 3] rfl) h
              refine lv_if_ne (tgt := 132) hx hb dX13_cashIn_113 (by decide) (fun c21 => ?_) (fun c21 => ?_)
              · have h := x_f h c21
                refine lv_iconst (v := 0) hx hb dX13_cashIn_132 (by decide) ?_
                exact hJ_J133 0 v2_11 v1_11 v3_11 t0_11 s0_11 _ _ hP hD hS _ (lv_sub hl [1, 2, 4, 0] rfl) h
              · have h := x_t h c21
                refine lv_iload hx hb dX13_cashIn_116 (lv_at hl 0 rfl) ?_
                refine lv_aload_n hx hb dX13_cashIn_118 rfl (lv_at hl 1 rfl) ?_
                refine va_get (D := D) (ci := 12) (v := .ref (h0 1)) (C := RX13) (T := TX13) (N := 16) hx hb hts iX13 hown hK hP 0 rfl rfl 0 (by decide) (hts _ qfl_X13_7) (fun _ h9 => h9) rfl dX13_cashIn_119 ?_
                refine lv_sipush (v := 169) hx hb dX13_cashIn_122 (by decide) ?_
                refine lv_iload_n hx hb dX13_cashIn_125 rfl (lv_at hl 4 rfl) ?_
                refine lv_iadd hx hb dX13_cashIn_126 ?_
                obtain ⟨k22, hk22, h⟩ := x_rd h
                refine xIald hx hb hK hP 1 0 rfl rfl hk22 dX13_cashIn_127 ?_
                refine lv_imul hx hb dX13_cashIn_128 ?_
                refine lv_goto (tgt := 133) hx hb dX13_cashIn_129 (by decide) ?_
                exact hJ_J133 (t0_11 * (s0_11.1 k22)) v2_11 v1_11 v3_11 t0_11 s0_11 _ _ hP hD hS _ (lv_sub hl [1, 2, 4, 0] rfl) h
            refine lv_icmp_ge (tgt := 90) hx hb dX13_cashIn_82 (by decide) (fun c23 => ?_) (fun c23 => ?_)
            · have h := x_t h c23
              refine lv_aload_n hx hb dX13_cashIn_90 rfl (lv_at hl 1 rfl) ?_
              refine va_get (D := D) (ci := 12) (v := .ref (h0 1)) (C := RX13) (T := TX13) (N := 16) hx hb hts iX13 hown hK hP 0 rfl rfl 0 (by decide) (hts _ qfl_X13_7) (fun _ h9 => h9) rfl dX13_cashIn_91 ?_
              refine lv_sipush (v := 181) hx hb dX13_cashIn_94 (by decide) ?_
              refine lv_iload_n hx hb dX13_cashIn_97 rfl (lv_at hl 4 rfl) ?_
              refine lv_iadd hx hb dX13_cashIn_98 ?_
              obtain ⟨k24, hk24, h⟩ := x_rd h
              refine xIald hx hb hK hP 1 0 rfl rfl hk24 dX13_cashIn_99 ?_
              exact hJ_J100 (s0_9.1 k24) v1_9 v2_9 v3_9 s0_9 _ _ hP hD hS _ (lv_sub hl [1, 2, 3, 4] rfl) h
            · have h := x_f h c23
              refine lv_iload hx hb dX13_cashIn_85 (lv_at hl 0 rfl) ?_
              refine lv_goto (tgt := 100) hx hb dX13_cashIn_87 (by decide) ?_
              exact hJ_J100 t0_9 v1_9 v2_9 v3_9 s0_9 _ _ hP hD hS _ (lv_sub hl [1, 2, 3, 4] rfl) h
          refine lv_icmp_ge (tgt := 48) hx hb dX13_cashIn_41 (by decide) (fun c25 => ?_) (fun c25 => ?_)
          · have h := x_t h c25
            refine lv_iconst (v := 1) hx hb dX13_cashIn_48 (by decide) ?_
            refine lv_iload_n hx hb dX13_cashIn_49 rfl (lv_at hl 1 rfl) ?_
            refine lv_aload_n hx hb dX13_cashIn_50 rfl (lv_at hl 0 rfl) ?_
            refine lv_iload_n hx hb dX13_cashIn_51 rfl (lv_at hl 3 rfl) ?_
            obtain ⟨q26, c26, h⟩ := x_call h
            refine xCall (w2 := MW cA h0 s0_6) (xRunV (n := 1) (As := [.int v3_6]) (rest := [.int v1_6, .int 1]) ⟨hx, hb, hml, hown, hts⟩ (kX13_waits l D cA h0 _ N v3_6 s0_6 q26 c26) qco_X13_waits qml_X13_181 qin_X13_waits qse_X13_waits qini_X13 (by decide +kernel) (by rw [← erm]; rfl) hK hP hD [0, 1, 2, 3, 4, 5, 6, 7] rfl rfl (q0 := 0) rfl rfl rfl rfl rfl hl.1 rfl (lv_room (Nat.le_of_ble_eq_true rfl)) dX13_cashIn_52 ⟨Nat.zero_le _, Nat.zero_le _⟩) hP hD hS hA [0, 1, 2, 3, 4, 5, 6, 7] [] [0, 1, 2, 3, 4, 5, 6, 7] rfl (wr := []) rfl rfl rfl rfl rfl (fun H locs hP hD hS => ?_)
            refine lv_isub hx hb dX13_cashIn_55 ?_
            refine lv_aload_n hx hb dX13_cashIn_56 rfl (lv_at hl 0 rfl) ?_
            refine va_get (D := D) (ci := 12) (v := .ref (h0 1)) (C := RX13) (T := TX13) (N := 16) hx hb hts iX13 hown hK hP 0 rfl rfl 0 (by decide) (hts _ qfl_X13_7) (fun _ h9 => h9) rfl dX13_cashIn_57 ?_
            refine lv_sipush (v := 175) hx hb dX13_cashIn_60 (by decide) ?_
            refine lv_iload_n hx hb dX13_cashIn_63 rfl (lv_at hl 3 rfl) ?_
            refine lv_iadd hx hb dX13_cashIn_64 ?_
            obtain ⟨k27, hk27, h⟩ := x_rd h
            refine xIald hx hb hK hP 1 0 rfl rfl hk27 dX13_cashIn_65 ?_
            obtain ⟨z28, h⟩ := x_nz h
            refine lv_idiv hx hb dX13_cashIn_66 (of_decide_eq_true z28) ?_
            refine lv_iadd hx hb dX13_cashIn_67 ?_
            exact hJ_J68 (1 + ((v1_6 - q26) / (s0_6.1 k27))) v1_6 v2_6 v3_6 s0_6 _ _ hP hD hS _ (lv_sub hl [0, 1, 2, 3] rfl) h
          · have h := x_f h c25
            refine lv_iconst (v := 0) hx hb dX13_cashIn_44 (by decide) ?_
            refine lv_goto (tgt := 68) hx hb dX13_cashIn_45 (by decide) ?_
            exact hJ_J68 0 v1_6 v2_6 v3_6 s0_6 _ _ hP hD hS _ (lv_sub hl [0, 1, 2, 3] rfl) h
    exact hL25 N a1 q3 0 s0 _ _ hP hD hS _ (lv_sub hl [2, 3, 1, 0] rfl) h
  · have h := x_t h c2
    refine lv_aload_n hx hb dX13_cashIn_10 rfl (lv_at hl 0 rfl) ?_
    refine lv_iconst (v := 1) hx hb dX13_cashIn_11 (by decide) ?_
    obtain ⟨q29, c29, h⟩ := x_call h
    refine xCall (w2 := MW cA h0 q29.2) (xRunV (n := 1) (As := [.int 1]) (rest := []) ⟨hx, hb, hml, hown, hts⟩ (kX13_fails l D cA h0 _ N 1 s0 q29 c29) qco_X13_fails qml_X13_57 qin_X13_fails qse_X13_fails qini_X13 (by decide +kernel) (by rw [← erm]; rfl) hK hP hD [0, 1, 2, 3, 4, 5, 6, 7] rfl rfl (q0 := 0) rfl rfl rfl rfl rfl hl.1 rfl (lv_room (Nat.le_of_ble_eq_true rfl)) dX13_cashIn_12 ⟨Nat.zero_le _, Nat.zero_le _⟩) hP hD hS hA [0, 1, 2, 3, 4, 5, 6, 7] [] [0, 1, 2, 3, 4, 5, 6, 7] rfl (wr := []) rfl rfl rfl rfl rfl (fun H locs hP hD hS => ?_)
    refine lv_i2l hx hb dX13_cashIn_15 rfl ?_
    have h := Option.some.inj h
    subst h
    exact xLret hx hb hr hlocks hP hK hD hS dX13_cashIn_16
def fX13_costumeCount (N : Nat)  (s0 : MS) : Option (Int32 × MS) :=
  xcall (fX13_costumes N s0) fun q1 =>
  xcall (fX13_done N q1 s0) fun q2 =>
  some (q2.1, q2.2)
set_option maxRecDepth 100000 in
set_option maxHeartbeats 4000000 in
theorem kX13_costumeCount (l : Launch) (D : va_G) (cA : Nat → ClassId) (h0 : Nat → Nat) (sz N : Nat)  (s0 : MS) (q : Int32 × MS) (h : fX13_costumeCount N s0 = some q) : xM l yX13_costumeCount cX13_costumeCount 1 (some .int) ({ frames := 1, cells := 0, slots := 0, locals := 22 }) D cA (MW cA h0 s0) sz [.ref (h0 0)] (some (.int q.1)) (MW cA h0 q.2) := by
  generalize erm : ({ frames := 1, cells := 0, slots := 0, locals := 22 } : Room) = rm
  refine xMet (by decide) (Nat.le_of_ble_eq_true rfl) ?_
  intro p e s m below meth c hx hb hr hlocks hml hts hown hin hK hP A eA hD hS hA hsz ls hl
  have hl : lv_has ls 1 [(0, .ref (h0 0))] := hl
  clear eA
  rw [fX13_costumeCount] at h
  refine lv_aload_n hx hb dX13_costumeCount_0 rfl (lv_at hl 0 rfl) ?_
  refine lv_aload_n hx hb dX13_costumeCount_1 rfl (lv_at hl 0 rfl) ?_
  obtain ⟨q1, c1, h⟩ := x_call h
  refine xCall (w2 := MW cA h0 s0) (xRunV (n := 0) (As := []) (rest := [.ref (h0 0)]) ⟨hx, hb, hml, hown, hts⟩ (kX13_costumes l D cA h0 _ N s0 q1 c1) qco_X13_costumes qml_X13_121 qin_X13_costumes qse_X13_costumes qini_X13 (by decide +kernel) (by rw [← erm]; rfl) hK hP hD [0, 1, 2, 3, 4, 5, 6, 7] rfl rfl (q0 := 0) rfl rfl rfl rfl rfl hl.1 rfl (lv_room (Nat.le_of_ble_eq_true rfl)) dX13_costumeCount_2 ⟨Nat.zero_le _, Nat.zero_le _⟩) hP hD hS hA [0, 1, 2, 3, 4, 5, 6, 7] [] [0, 1, 2, 3, 4, 5, 6, 7] rfl (wr := []) rfl rfl rfl rfl rfl (fun H locs hP hD hS => ?_)
  obtain ⟨q2, c2, h⟩ := x_call h
  refine xCall (w2 := MW cA h0 q2.2) (xRunV (n := 1) (As := [.int q1]) (rest := []) ⟨hx, hb, hml, hown, hts⟩ (kX13_done l D cA h0 _ N q1 s0 q2 c2) qco_X13_done qml_X13_60 qin_X13_done qse_X13_done qini_X13 (by decide +kernel) (by rw [← erm]; rfl) hK hP hD [0, 1, 2, 3, 4, 5, 6, 7] rfl rfl (q0 := 0) rfl rfl rfl rfl rfl hl.1 rfl (lv_room (Nat.le_of_ble_eq_true rfl)) dX13_costumeCount_5 ⟨Nat.zero_le _, Nat.zero_le _⟩) hP hD hS hA [0, 1, 2, 3, 4, 5, 6, 7] [] [0, 1, 2, 3, 4, 5, 6, 7] rfl (wr := []) rfl rfl rfl rfl rfl (fun H locs hP hD hS => ?_)
  have h := Option.some.inj h
  subst h
  exact xIret hx hb hr hlocks hP hK hD hS dX13_costumeCount_8
def fX13_lotCount (N : Nat)  (s0 : MS) : Option (Int32 × MS) :=
  xcall (fX13_done N (s0.1 5) s0) fun q1 =>
  some (q1.1, q1.2)
set_option maxRecDepth 100000 in
set_option maxHeartbeats 4000000 in
theorem kX13_lotCount (l : Launch) (D : va_G) (cA : Nat → ClassId) (h0 : Nat → Nat) (sz N : Nat)  (s0 : MS) (q : Int32 × MS) (h : fX13_lotCount N s0 = some q) : xM l yX13_lotCount cX13_lotCount 1 (some .int) ({ frames := 1, cells := 0, slots := 0, locals := 21 }) D cA (MW cA h0 s0) sz [.ref (h0 0)] (some (.int q.1)) (MW cA h0 q.2) := by
  generalize erm : ({ frames := 1, cells := 0, slots := 0, locals := 21 } : Room) = rm
  refine xMet (by decide) (Nat.le_of_ble_eq_true rfl) ?_
  intro p e s m below meth c hx hb hr hlocks hml hts hown hin hK hP A eA hD hS hA hsz ls hl
  have hl : lv_has ls 1 [(0, .ref (h0 0))] := hl
  clear eA
  rw [fX13_lotCount] at h
  refine lv_aload_n hx hb dX13_lotCount_0 rfl (lv_at hl 0 rfl) ?_
  refine lv_aload_n hx hb dX13_lotCount_1 rfl (lv_at hl 0 rfl) ?_
  refine va_get (D := D) (ci := 12) (v := .ref (h0 1)) (C := RX13) (T := TX13) (N := 16) hx hb hts iX13 hown hK hP 0 rfl rfl 0 (by decide) (hts _ qfl_X13_7) (fun _ h9 => h9) rfl dX13_lotCount_2 ?_
  refine lv_iconst (v := 5) hx hb dX13_lotCount_5 (by decide) ?_
  refine xIald hx hb hK hP 1 0 rfl rfl (x_lit (k := 5) (by decide)) dX13_lotCount_6 ?_
  obtain ⟨q1, c1, h⟩ := x_call h
  refine xCall (w2 := MW cA h0 q1.2) (xRunV (n := 1) (As := [.int (s0.1 5)]) (rest := []) ⟨hx, hb, hml, hown, hts⟩ (kX13_done l D cA h0 _ N (s0.1 5) s0 q1 c1) qco_X13_done qml_X13_60 qin_X13_done qse_X13_done qini_X13 (by decide +kernel) (by rw [← erm]; rfl) hK hP hD [0, 1, 2, 3, 4, 5, 6, 7] rfl rfl (q0 := 0) rfl rfl rfl rfl rfl hl.1 rfl (lv_room (Nat.le_of_ble_eq_true rfl)) dX13_lotCount_7 ⟨Nat.zero_le _, Nat.zero_le _⟩) hP hD hS hA [0, 1, 2, 3, 4, 5, 6, 7] [] [0, 1, 2, 3, 4, 5, 6, 7] rfl (wr := []) rfl rfl rfl rfl rfl (fun H locs hP hD hS => ?_)
  have h := Option.some.inj h
  subst h
  exact xIret hx hb hr hlocks hP hK hD hS dX13_lotCount_10
def fX13_costOf (N : Nat) (a1 : Int32) (s0 : MS) : Option (Int32 × MS) :=
  xcall (fX13_in N a1 1 20) fun q1 =>
  if q1 = 0 then
    xcall (fX13_fails N 1 s0) fun q9 =>
    some (q9.1, q9.2)
  else
    xcall (fX13_costumes N s0) fun q3 =>
    xjoin (fun (t0_4 : Int32) (s0_4 : MS) =>
        some (t0_4, s0_4)
      ) fun J41 =>
    if a1 ≤ q3 then
      xcall (fX13_costOfFirst N a1 s0) fun q6 =>
      xcall (fX13_done N q6 s0) fun q7 =>
      J41 q7.1 q7.2
    else
      xcall (fX13_fails N 2 s0) fun q8 =>
      J41 q8.1 q8.2
set_option maxRecDepth 100000 in
set_option maxHeartbeats 4000000 in
theorem kX13_costOf (l : Launch) (D : va_G) (cA : Nat → ClassId) (h0 : Nat → Nat) (sz N : Nat) (a1 : Int32) (s0 : MS) (q : Int32 × MS) (h : fX13_costOf N a1 s0 = some q) : xM l yX13_costOf cX13_costOf 2 (some .int) ({ frames := 1, cells := 0, slots := 0, locals := 25 }) D cA (MW cA h0 s0) sz [.ref (h0 0), .int a1] (some (.int q.1)) (MW cA h0 q.2) := by
  generalize erm : ({ frames := 1, cells := 0, slots := 0, locals := 25 } : Room) = rm
  refine xMet (by decide) (Nat.le_of_ble_eq_true rfl) ?_
  intro p e s m below meth c hx hb hr hlocks hml hts hown hin hK hP A eA hD hS hA hsz ls hl
  have hl : lv_has ls 2 [(0, .ref (h0 0)), (1, .int a1)] := hl
  clear eA
  rw [fX13_costOf] at h
  refine lv_iload_n hx hb dX13_costOf_0 rfl (lv_at hl 1 rfl) ?_
  refine lv_iconst (v := 1) hx hb dX13_costOf_1 (by decide) ?_
  refine lv_bipush (v := 20) hx hb dX13_costOf_2 (by decide) ?_
  obtain ⟨q1, c1, h⟩ := x_call h
  refine xCall (w2 := MW cA h0 s0) (xRunS (n := 3) (As := [.int a1, .int 1, .int 20]) (rest := []) ⟨hx, hb, hml, hown, hts⟩ (kX13_in l D cA  _ N a1 1 20 q1 c1) qco_X13_in qml_X13_49 qst_X13_in qini_X13 (by decide +kernel) (by rw [← erm]; rfl) hK hP hD [] rfl rfl rfl rfl hl.1 rfl (lv_room (Nat.le_of_ble_eq_true rfl)) dX13_costOf_4 ⟨Nat.zero_le _, Nat.zero_le _⟩) hP hD hS hA [] [0, 1, 2, 3, 4, 5, 6, 7] [0, 1, 2, 3, 4, 5, 6, 7] rfl (wr := [(h0 0, .inr (12, [.ref (h0 1), .ref (h0 2), .ref (h0 3), .int (s0.2.2.2.1), .ref (h0 4), .int (s0.2.2.2.2.2.1), .ref (h0 5), .int (s0.2.2.2.2.2.2.2.1), .int (s0.2.2.2.2.2.2.2.2.1), .int (s0.2.2.2.2.2.2.2.2.2.1), .ref (h0 6), .int (s0.2.2.2.2.2.2.2.2.2.2.2.1), .int (s0.2.2.2.2.2.2.2.2.2.2.2.2.1), .int (s0.2.2.2.2.2.2.2.2.2.2.2.2.2.1), .int (s0.2.2.2.2.2.2.2.2.2.2.2.2.2.2.1), .ref (h0 7)])), (h0 1, .inl (cA 0, 229, .inl (s0.1))), (h0 2, .inl (cA 0, 229, .inl (s0.2.1))), (h0 3, .inl (cA 0, 1832, .inl (s0.2.2.1))), (h0 4, .inl (cA 0, 229, .inl (s0.2.2.2.2.1))), (h0 5, .inl (cA 1, 60, .inl (s0.2.2.2.2.2.2.1))), (h0 6, .inl (cA 1, 60, .inl (s0.2.2.2.2.2.2.2.2.2.2.1))), (h0 7, .inl (cA 0, 240, .inl (s0.2.2.2.2.2.2.2.2.2.2.2.2.2.2.2)))]) rfl rfl rfl rfl rfl (fun H locs hP hD hS => ?_)
  refine lv_if_ne (tgt := 16) hx hb dX13_costOf_7 (by decide) (fun c2 => ?_) (fun c2 => ?_)
  · have h := x_f h c2
    refine lv_aload_n hx hb dX13_costOf_16 rfl (lv_at hl 0 rfl) ?_
    obtain ⟨q3, c3, h⟩ := x_call h
    refine xCall (w2 := MW cA h0 s0) (xRunV (n := 0) (As := []) (rest := []) ⟨hx, hb, hml, hown, hts⟩ (kX13_costumes l D cA h0 _ N s0 q3 c3) qco_X13_costumes qml_X13_121 qin_X13_costumes qse_X13_costumes qini_X13 (by decide +kernel) (by rw [← erm]; rfl) hK hP hD [0, 1, 2, 3, 4, 5, 6, 7] rfl rfl (q0 := 0) rfl rfl rfl rfl rfl hl.1 rfl (lv_room (Nat.le_of_ble_eq_true rfl)) dX13_costOf_17 ⟨Nat.zero_le _, Nat.zero_le _⟩) hP hD hS hA [0, 1, 2, 3, 4, 5, 6, 7] [] [0, 1, 2, 3, 4, 5, 6, 7] rfl (wr := []) rfl rfl rfl rfl rfl (fun H locs hP hD hS => ?_)
    refine lv_iload_n hx hb dX13_costOf_20 rfl (lv_at hl 1 rfl) ?_
    obtain ⟨J41, eJ41, h⟩ := x_join h
    have hJ_J41 : ∀ (t0_4 : Int32) (s0_4 : MS) (H : Heap) (locs : List Loc), va_P D vwCl (MW cA h0 s0_4) H → va_D A (MW cA h0 s0_4) → va_S A s.heap H locs → ∀ ls : Array Slot, lv_has ls 2 [] → J41 t0_4 s0_4 = some q → W p l e rm s m ([.ref (h0 0), .int a1] : List Value).toArray below meth c H locs 0 0 (MQ below (xQ D cA A (MW cA h0 q.2) (some (.int q.1))) ([.ref (h0 0), .int a1] : List Value).toArray s 0 0 A) (F0 m 41 ls [.int t0_4]) := by
      clear h hP hD hS hl
      intro t0_4 s0_4 H locs hP hD hS ls hl h
      rw [eJ41] at h
      have h := Option.some.inj h
      subst h
      exact xIret hx hb hr hlocks hP hK hD hS dX13_costOf_41
    refine lv_icmp_ge (tgt := 32) hx hb dX13_costOf_21 (by decide) (fun c5 => ?_) (fun c5 => ?_)
    · have h := x_t h c5
      refine lv_aload_n hx hb dX13_costOf_32 rfl (lv_at hl 0 rfl) ?_
      refine lv_aload_n hx hb dX13_costOf_33 rfl (lv_at hl 0 rfl) ?_
      refine lv_iload_n hx hb dX13_costOf_34 rfl (lv_at hl 1 rfl) ?_
      obtain ⟨q6, c6, h⟩ := x_call h
      refine xCall (w2 := MW cA h0 s0) (xRunV (n := 1) (As := [.int a1]) (rest := [.ref (h0 0)]) ⟨hx, hb, hml, hown, hts⟩ (kX13_costOfFirst l D cA h0 _ N a1 s0 q6 c6) qco_X13_costOfFirst qml_X13_124 qin_X13_costOfFirst qse_X13_costOfFirst qini_X13 (by decide +kernel) (by rw [← erm]; rfl) hK hP hD [0, 1, 2, 3, 4, 5, 6, 7] rfl rfl (q0 := 0) rfl rfl rfl rfl rfl hl.1 rfl (lv_room (Nat.le_of_ble_eq_true rfl)) dX13_costOf_35 ⟨Nat.zero_le _, Nat.zero_le _⟩) hP hD hS hA [0, 1, 2, 3, 4, 5, 6, 7] [] [0, 1, 2, 3, 4, 5, 6, 7] rfl (wr := []) rfl rfl rfl rfl rfl (fun H locs hP hD hS => ?_)
      obtain ⟨q7, c7, h⟩ := x_call h
      refine xCall (w2 := MW cA h0 q7.2) (xRunV (n := 1) (As := [.int q6]) (rest := []) ⟨hx, hb, hml, hown, hts⟩ (kX13_done l D cA h0 _ N q6 s0 q7 c7) qco_X13_done qml_X13_60 qin_X13_done qse_X13_done qini_X13 (by decide +kernel) (by rw [← erm]; rfl) hK hP hD [0, 1, 2, 3, 4, 5, 6, 7] rfl rfl (q0 := 0) rfl rfl rfl rfl rfl hl.1 rfl (lv_room (Nat.le_of_ble_eq_true rfl)) dX13_costOf_38 ⟨Nat.zero_le _, Nat.zero_le _⟩) hP hD hS hA [0, 1, 2, 3, 4, 5, 6, 7] [] [0, 1, 2, 3, 4, 5, 6, 7] rfl (wr := []) rfl rfl rfl rfl rfl (fun H locs hP hD hS => ?_)
      exact hJ_J41 q7.1 q7.2 _ _ hP hD hS _ (lv_sub hl [] rfl) h
    · have h := x_f h c5
      refine lv_aload_n hx hb dX13_costOf_24 rfl (lv_at hl 0 rfl) ?_
      refine lv_iconst (v := 2) hx hb dX13_costOf_25 (by decide) ?_
      obtain ⟨q8, c8, h⟩ := x_call h
      refine xCall (w2 := MW cA h0 q8.2) (xRunV (n := 1) (As := [.int 2]) (rest := []) ⟨hx, hb, hml, hown, hts⟩ (kX13_fails l D cA h0 _ N 2 s0 q8 c8) qco_X13_fails qml_X13_57 qin_X13_fails qse_X13_fails qini_X13 (by decide +kernel) (by rw [← erm]; rfl) hK hP hD [0, 1, 2, 3, 4, 5, 6, 7] rfl rfl (q0 := 0) rfl rfl rfl rfl rfl hl.1 rfl (lv_room (Nat.le_of_ble_eq_true rfl)) dX13_costOf_26 ⟨Nat.zero_le _, Nat.zero_le _⟩) hP hD hS hA [0, 1, 2, 3, 4, 5, 6, 7] [] [0, 1, 2, 3, 4, 5, 6, 7] rfl (wr := []) rfl rfl rfl rfl rfl (fun H locs hP hD hS => ?_)
      refine lv_goto (tgt := 41) hx hb dX13_costOf_29 (by decide) ?_
      exact hJ_J41 q8.1 q8.2 _ _ hP hD hS _ (lv_sub hl [] rfl) h
  · have h := x_t h c2
    refine lv_aload_n hx hb dX13_costOf_10 rfl (lv_at hl 0 rfl) ?_
    refine lv_iconst (v := 1) hx hb dX13_costOf_11 (by decide) ?_
    obtain ⟨q9, c9, h⟩ := x_call h
    refine xCall (w2 := MW cA h0 q9.2) (xRunV (n := 1) (As := [.int 1]) (rest := []) ⟨hx, hb, hml, hown, hts⟩ (kX13_fails l D cA h0 _ N 1 s0 q9 c9) qco_X13_fails qml_X13_57 qin_X13_fails qse_X13_fails qini_X13 (by decide +kernel) (by rw [← erm]; rfl) hK hP hD [0, 1, 2, 3, 4, 5, 6, 7] rfl rfl (q0 := 0) rfl rfl rfl rfl rfl hl.1 rfl (lv_room (Nat.le_of_ble_eq_true rfl)) dX13_costOf_12 ⟨Nat.zero_le _, Nat.zero_le _⟩) hP hD hS hA [0, 1, 2, 3, 4, 5, 6, 7] [] [0, 1, 2, 3, 4, 5, 6, 7] rfl (wr := []) rfl rfl rfl rfl rfl (fun H locs hP hD hS => ?_)
    have h := Option.some.inj h
    subst h
    exact xIret hx hb hr hlocks hP hK hD hS dX13_costOf_15
