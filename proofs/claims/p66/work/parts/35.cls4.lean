/-! method by method: what it computes, and that its bytes compute it -/
def fX7_reachWith_L2 (N : Nat) (K31 : MatS → Option (MatS)) : Nat → Int32 → Int32 → MatS → Option (MatS)
  | 0, _, _, _ => none
  | n + 1, v1_2, v3_2, s0_2 =>
    if v3_2 < v1_2 then
      K31 s0_2
    else
      xrd 1000 (v3_2 - v1_2) fun k4 =>
      xjoin (fun (v1_5 : Int32) (v3_5 : Int32) (s0_5 : MatS) =>
          xlet (v3_5 + (-1)) fun x6 =>
          fX7_reachWith_L2 N K31 n v1_5 x6 s0_5
        ) fun J25 =>
      if (s0_2.1 k4) = 0 then
        J25 v1_2 v3_2 s0_2
      else
        xrd 1000 v3_2 fun k8 =>
        xlet (upd s0_2.1 k8 (vp_nar .boolean 1)) fun g9 =>
        J25 v1_2 v3_2 ((Mats0 s0_2 g9))
def fX7_reachWith (N : Nat) (a1 : Int32) (a2 : Int32) (s0 : MatS) : Option (MatS) :=
  xjoin (fun (s0_1 : MatS) =>
      some s0_1
    ) fun K31 =>
  fX7_reachWith_L2 N K31 N a1 a2 s0
set_option maxRecDepth 100000 in
set_option maxHeartbeats 4000000 in
theorem kX7_reachWith (l : Launch) (D : va_G) (cA : Nat → ClassId) (ad : Nat → Nat) (h0 : Nat → Nat) (sz N : Nat) (a1 : Int32) (a2 : Int32) (s0 : MatS) (q : MatS) (h : fX7_reachWith N a1 a2 s0 = some q) : zM l yX7_reachWith cX7_reachWith 4 none ({ frames := 0, cells := 0, slots := 0, locals := 0 }) D cA ad (MatW cA h0 s0) sz [.ref (h0 0), .int a1, .int a2] (none) (MatW cA h0 q) := by
  generalize erm : ({ frames := 0, cells := 0, slots := 0, locals := 0 } : Room) = rm
  refine zMet (by decide) (Nat.le_of_ble_eq_true rfl) ?_
  intro p e s m below meth c hx hb hr hlocks hml hts hown hin hK hP A eA hD hS hA hsz hN hE ls hl
  have hl : lv_has ls 4 [(0, .ref (h0 0)), (1, .int a1), (2, .int a2)] := hl
  clear eA
  rw [fX7_reachWith] at h
  refine lv_iload_n hx hb dX7_reachWith_0 rfl (lv_at hl 2 rfl) ?_
  refine lv_istore_n (lv' := [(3, .int a2), (0, .ref (h0 0)), (1, .int a1), (2, .int a2)]) hx hb dX7_reachWith_1 rfl hl (by decide) rfl (fun ls hl => ?_)
  obtain ⟨K31, eK31, h⟩ := x_join h
  have hJ_K31 : ∀ (s0_1 : MatS) (H : Heap) (locs : List Loc), va_P D vwCl (MatW cA h0 s0_1) H → va_D A (MatW cA h0 s0_1) → va_S A s.heap H locs → ∀ ls : Array Slot, lv_has ls 4 [] → K31 s0_1 = some q → W p l e rm s m ([.ref (h0 0), .int a1, .int a2] : List Value).toArray below meth c H locs 0 0 (MQ below (xQ D cA A (MatW cA h0 q) (none)) ([.ref (h0 0), .int a1, .int a2] : List Value).toArray s 0 0 A) (F0 m 31 ls []) := by
    clear h hP hD hS hl
    intro s0_1 H locs hP hD hS ls hl h
    rw [eK31] at h
    have h := Option.some.inj h
    subst h
    exact xVret hx hb hr hlocks hP hK hD hS dX7_reachWith_31
  have hL2 : ∀ (n : Nat) (v1_2 : Int32) (v3_2 : Int32) (s0_2 : MatS) (H : Heap) (locs : List Loc), va_P D vwCl (MatW cA h0 s0_2) H → va_D A (MatW cA h0 s0_2) → va_S A s.heap H locs → ∀ ls : Array Slot, lv_has ls 4 [(0, .ref (h0 0)), (1, .int v1_2), (3, .int v3_2)] → fX7_reachWith_L2 N K31 n v1_2 v3_2 s0_2 = some q → W p l e rm s m ([.ref (h0 0), .int a1, .int a2] : List Value).toArray below meth c H locs 0 0 (MQ below (xQ D cA A (MatW cA h0 q) (none)) ([.ref (h0 0), .int a1, .int a2] : List Value).toArray s 0 0 A) (F0 m 2 ls []) := by
    clear h hP hD hS hl
    intro n
    induction n with
    | zero => intro v1_2 v3_2 s0_2 H locs hP hD hS ls hl h; rw [fX7_reachWith_L2] at h; cases h
    | succ n ih =>
      intro v1_2 v3_2 s0_2 H locs hP hD hS ls hl h
      rw [fX7_reachWith_L2] at h
      refine lv_iload_n hx hb dX7_reachWith_2 rfl (lv_at hl 2 rfl) ?_
      refine lv_iload_n hx hb dX7_reachWith_3 rfl (lv_at hl 1 rfl) ?_
      refine lv_icmp_lt (tgt := 31) hx hb dX7_reachWith_4 (by decide) (fun c3 => ?_) (fun c3 => ?_)
      · have h := x_t h c3
        exact hJ_K31 s0_2 _ _ hP hD hS _ (lv_sub hl [] rfl) h
      · have h := x_f h c3
        refine lv_aload_n hx hb dX7_reachWith_7 rfl (lv_at hl 0 rfl) ?_
        refine va_get (D := D) (ci := 7) (v := .ref (h0 1)) (C := RX7) (T := TX7) (N := 2) hx hb hts iX7 hown hK hP 0 rfl rfl 0 (by decide) (hts _ qfl_X7_9) (fun _ h9 => h9) rfl dX7_reachWith_8 ?_
        refine lv_iload_n hx hb dX7_reachWith_11 rfl (lv_at hl 2 rfl) ?_
        refine lv_iload_n hx hb dX7_reachWith_12 rfl (lv_at hl 1 rfl) ?_
        refine lv_isub hx hb dX7_reachWith_13 ?_
        obtain ⟨k4, hk4, h⟩ := x_rd h
        refine xZald hx hb hK hP 1 3 rfl rfl hk4 dX7_reachWith_14 ?_
        obtain ⟨J25, eJ25, h⟩ := x_join h
        have hJ_J25 : ∀ (v1_5 : Int32) (v3_5 : Int32) (s0_5 : MatS) (H : Heap) (locs : List Loc), va_P D vwCl (MatW cA h0 s0_5) H → va_D A (MatW cA h0 s0_5) → va_S A s.heap H locs → ∀ ls : Array Slot, lv_has ls 4 [(0, .ref (h0 0)), (1, .int v1_5), (3, .int v3_5)] → J25 v1_5 v3_5 s0_5 = some q → W p l e rm s m ([.ref (h0 0), .int a1, .int a2] : List Value).toArray below meth c H locs 0 0 (MQ below (xQ D cA A (MatW cA h0 q) (none)) ([.ref (h0 0), .int a1, .int a2] : List Value).toArray s 0 0 A) (F0 m 25 ls []) := by
          clear h hP hD hS hl
          intro v1_5 v3_5 s0_5 H locs hP hD hS ls hl h
          rw [eJ25] at h
          obtain ⟨x6, ex6⟩ : ∃ y : Int32, y = v3_5 + (-1) := ⟨_, rfl⟩
          have h := x_let h ex6
          refine lv_iinc (v := x6) (lv' := [(3, .int x6), (0, .ref (h0 0)), (1, .int v1_5)]) hx hb dX7_reachWith_25 hl (k := 2) rfl (by rw [ex6]; rfl) (by decide) rfl (fun ls hl => ?_)
          refine lv_goto (tgt := 2) hx hb dX7_reachWith_28 (by decide) ?_
          exact ih v1_5 x6 s0_5 _ _ hP hD hS _ (lv_sub hl [1, 2, 0] rfl) h
        refine lv_if_eq (tgt := 25) hx hb dX7_reachWith_15 (by decide) (fun c7 => ?_) (fun c7 => ?_)
        · have h := x_t h c7
          exact hJ_J25 v1_2 v3_2 s0_2 _ _ hP hD hS _ (lv_sub hl [0, 1, 2] rfl) h
        · have h := x_f h c7
          refine lv_aload_n hx hb dX7_reachWith_18 rfl (lv_at hl 0 rfl) ?_
          refine va_get (D := D) (ci := 7) (v := .ref (h0 1)) (C := RX7) (T := TX7) (N := 2) hx hb hts iX7 hown hK hP 0 rfl rfl 0 (by decide) (hts _ qfl_X7_9) (fun _ h9 => h9) rfl dX7_reachWith_19 ?_
          refine lv_iload_n hx hb dX7_reachWith_22 rfl (lv_at hl 2 rfl) ?_
          refine lv_iconst (v := 1) hx hb dX7_reachWith_23 (by decide) ?_
          obtain ⟨k8, hk8, h⟩ := x_rd h
          refine xZast (w2 := fun zz => MatW cA h0 ((Mats0 s0_2 zz))) hx hb hK hP hD hS 1 3 rfl rfl hk8 (fun _ => rfl) dX7_reachWith_24 (fun g9 eg9 H locs hP hD hS => ?_)
          have h := x_let h eg9
          have hP : va_P D vwCl (MatW cA h0 ((Mats0 s0_2 g9))) H := hP
          have hD : va_D A (MatW cA h0 ((Mats0 s0_2 g9))) := hD
          exact hJ_J25 v1_2 v3_2 ((Mats0 s0_2 g9)) _ _ hP hD hS _ (lv_sub hl [0, 1, 2] rfl) h
  exact hL2 N a1 a2 s0 _ _ hP hD hS _ (lv_sub hl [1, 2, 0] rfl) h
def fX7_canReach_L42 (N : Nat) (K66 : Int32 → MatS → BilS → Option (Int32 × MatS × BilS)) : Nat → Int32 → Int32 → MatS → BilS → Option (Int32 × MatS × BilS)
  | 0, _, _, _, _ => none
  | n + 1, v2_8, v3_8, s0_8, s1_8 =>
    if s1_8.2.2.1 ≤ v3_8 then
      K66 v2_8 s0_8 s1_8
    else
      xcall (fX2_amountAt N v3_8 s1_8) fun q10 =>
      xcall (fX7_reachWith N q10 v2_8 s0_8) fun q11 =>
      xlet (v3_8 + (1)) fun x12 =>
      fX7_canReach_L42 N K66 n v2_8 x12 q11 s1_8
def fX7_canReach_L22 (N : Nat) (K40 : Int32 → MatS → BilS → Option (Int32 × MatS × BilS)) : Nat → Int32 → Int32 → MatS → BilS → Option (Int32 × MatS × BilS)
  | 0, _, _, _, _ => none
  | n + 1, v2_13, v3_13, s0_13, s1_13 =>
    if v2_13 < v3_13 then
      K40 v2_13 s0_13 s1_13
    else
      xrd 1000 v3_13 fun k15 =>
      xlet (upd s0_13.1 k15 (vp_nar .boolean 0)) fun g16 =>
      xlet (v3_13 + (1)) fun x17 =>
      fX7_canReach_L22 N K40 n v2_13 x17 ((Mats0 s0_13 g16)) s1_13
def fX7_canReach (N : Nat) (a2 : Int32) (s0 : MatS) (s1 : BilS) : Option (Int32 × MatS × BilS) :=
  xcall (fX12_isWithin N a2 1 999) fun q1 =>
  if q1 = 0 then
    some (0, s0, s1)
  else
    xlet (upd s0.1 0 (vp_nar .boolean 1)) fun g3 =>
    xjoin (fun (v2_4 : Int32) (s0_4 : MatS) (s1_4 : BilS) =>
        xjoin (fun (v2_5 : Int32) (s0_5 : MatS) (s1_5 : BilS) =>
            xrd 1000 v2_5 fun k6 =>
            xnz (xnar .boolean (s0_5.1 k6)) <|
            some (s0_5.1 k6, s0_5, s1_5)
          ) fun K66 =>
        fX7_canReach_L42 N K66 N v2_4 0 s0_4 s1_4
      ) fun K40 =>
    fX7_canReach_L22 N K40 N a2 1 ((Mats0 s0 g3)) s1
set_option maxRecDepth 100000 in
set_option maxHeartbeats 4000000 in
theorem kX7_canReach (l : Launch) (D : va_G) (cA : Nat → ClassId) (ad : Nat → Nat) (h0 : Nat → Nat) (h1 : Nat → Nat) (sz N : Nat) (a2 : Int32) (s0 : MatS) (s1 : BilS) (q : Int32 × MatS × BilS) (h : fX7_canReach N a2 s0 s1 = some q) : zM l yX7_canReach cX7_canReach 4 (some .boolean) ({ frames := 1, cells := 0, slots := 0, locals := 23 }) D cA ad (MatW cA h0 s0 ++ BilW cA h1 s1) sz [.ref (h0 0), .ref (h1 0), .int a2] (some (.int q.1)) (MatW cA h0 q.2.1 ++ BilW cA h1 q.2.2) := by
  generalize erm : ({ frames := 1, cells := 0, slots := 0, locals := 23 } : Room) = rm
  refine zMet (by decide) (Nat.le_of_ble_eq_true rfl) ?_
  intro p e s m below meth c hx hb hr hlocks hml hts hown hin hK hP A eA hD hS hA hsz hN hE ls hl
  have hl : lv_has ls 4 [(0, .ref (h0 0)), (1, .ref (h1 0)), (2, .int a2)] := hl
  clear eA
  rw [fX7_canReach] at h
  refine lv_iload_n hx hb dX7_canReach_0 rfl (lv_at hl 2 rfl) ?_
  refine lv_iconst (v := 1) hx hb dX7_canReach_1 (by decide) ?_
  refine lv_sipush (v := 999) hx hb dX7_canReach_2 (by decide) ?_
  obtain ⟨q1, c1, h⟩ := x_call h
  refine xCall (w2 := MatW cA h0 s0 ++ BilW cA h1 s1) (xRunSN (n := 3) (As := [.int a2, .int 1, .int 999]) (rest := []) ⟨hx, hb, hml, hown, hts⟩ (kX12_isWithin l D cA  _ N a2 1 999 q1 c1) qco_X12_isWithin hN qmn_X7_19 qst_X12_isWithin qini_X12 (by decide +kernel) (by rw [← erm]; rfl) hK rfl rfl hl.1 rfl (lv_room (Nat.le_of_ble_eq_true rfl)) dX7_canReach_5 ⟨Nat.zero_le _, Nat.zero_le _⟩) hP hD hS hA [] [0, 1, 2, 3, 4, 5] [0, 1, 2, 3, 4, 5] rfl (wr := [(h0 0, .inr (7, [.ref (h0 1), .ref (h0 2)])), (h0 1, .inl (cA 3, 1000, .inl (s0.1))), (h0 2, .inl (cA 0, 1024, .inl (s0.2))), (h1 0, .inr (3, [.ref (h1 1), .ref (h1 2), .int (s1.2.2.1), .int (s1.2.2.2)])), (h1 1, .inl (cA 0, 10, .inl (s1.1))), (h1 2, .inl (cA 0, 10, .inl (s1.2.1)))]) rfl rfl rfl rfl rfl (fun H locs hP hD hS => ?_)
  refine lv_if_ne (tgt := 13) hx hb dX7_canReach_8 (by decide) (fun c2 => ?_) (fun c2 => ?_)
  · have h := x_f h c2
    refine lv_aload_n hx hb dX7_canReach_13 rfl (lv_at hl 0 rfl) ?_
    refine va_get (D := D) (ci := 7) (v := .ref (h0 1)) (C := RX7) (T := TX7) (N := 2) hx hb hts iX7 hown hK hP 0 rfl rfl 0 (by decide) (hts _ qfl_X7_9) (fun _ h9 => h9) rfl dX7_canReach_14 ?_
    refine lv_iconst (v := 0) hx hb dX7_canReach_17 (by decide) ?_
    refine lv_iconst (v := 1) hx hb dX7_canReach_18 (by decide) ?_
    refine xZast (w2 := fun zz => MatW cA h0 ((Mats0 s0 zz)) ++ BilW cA h1 s1) hx hb hK hP hD hS 1 3 rfl rfl (x_lit (k := 0) (by decide)) (fun _ => rfl) dX7_canReach_19 (fun g3 eg3 H locs hP hD hS => ?_)
    have h := x_let h eg3
    have hP : va_P D vwCl (MatW cA h0 ((Mats0 s0 g3)) ++ BilW cA h1 s1) H := hP
    have hD : va_D A (MatW cA h0 ((Mats0 s0 g3)) ++ BilW cA h1 s1) := hD
    refine lv_iconst (v := 1) hx hb dX7_canReach_20 (by decide) ?_
    refine lv_istore_n (lv' := [(3, .int 1), (0, .ref (h0 0)), (1, .ref (h1 0)), (2, .int a2)]) hx hb dX7_canReach_21 rfl hl (by decide) rfl (fun ls hl => ?_)
    obtain ⟨K40, eK40, h⟩ := x_join h
    have hJ_K40 : ∀ (v2_4 : Int32) (s0_4 : MatS) (s1_4 : BilS) (H : Heap) (locs : List Loc), va_P D vwCl (MatW cA h0 s0_4 ++ BilW cA h1 s1_4) H → va_D A (MatW cA h0 s0_4 ++ BilW cA h1 s1_4) → va_S A s.heap H locs → ∀ ls : Array Slot, lv_has ls 4 [(0, .ref (h0 0)), (1, .ref (h1 0)), (2, .int v2_4)] → K40 v2_4 s0_4 s1_4 = some q → W p l e rm s m ([.ref (h0 0), .ref (h1 0), .int a2] : List Value).toArray below meth c H locs 0 0 (MQ below (xQ D cA A (MatW cA h0 q.2.1 ++ BilW cA h1 q.2.2) (some (.int q.1))) ([.ref (h0 0), .ref (h1 0), .int a2] : List Value).toArray s 0 0 A) (F0 m 40 ls []) := by
      clear h hP hD hS hl
      intro v2_4 s0_4 s1_4 H locs hP hD hS ls hl h
      rw [eK40] at h
      refine lv_iconst (v := 0) hx hb dX7_canReach_40 (by decide) ?_
      refine lv_istore_n (lv' := [(3, .int 0), (0, .ref (h0 0)), (1, .ref (h1 0)), (2, .int v2_4)]) hx hb dX7_canReach_41 rfl hl (by decide) rfl (fun ls hl => ?_)
      obtain ⟨K66, eK66, h⟩ := x_join h
      have hJ_K66 : ∀ (v2_5 : Int32) (s0_5 : MatS) (s1_5 : BilS) (H : Heap) (locs : List Loc), va_P D vwCl (MatW cA h0 s0_5 ++ BilW cA h1 s1_5) H → va_D A (MatW cA h0 s0_5 ++ BilW cA h1 s1_5) → va_S A s.heap H locs → ∀ ls : Array Slot, lv_has ls 4 [(0, .ref (h0 0)), (2, .int v2_5)] → K66 v2_5 s0_5 s1_5 = some q → W p l e rm s m ([.ref (h0 0), .ref (h1 0), .int a2] : List Value).toArray below meth c H locs 0 0 (MQ below (xQ D cA A (MatW cA h0 q.2.1 ++ BilW cA h1 q.2.2) (some (.int q.1))) ([.ref (h0 0), .ref (h1 0), .int a2] : List Value).toArray s 0 0 A) (F0 m 66 ls []) := by
        clear h hP hD hS hl
        intro v2_5 s0_5 s1_5 H locs hP hD hS ls hl h
        rw [eK66] at h
        refine lv_aload_n hx hb dX7_canReach_66 rfl (lv_at hl 0 rfl) ?_
        refine va_get (D := D) (ci := 7) (v := .ref (h0 1)) (C := RX7) (T := TX7) (N := 2) hx hb hts iX7 hown hK hP 0 rfl rfl 0 (by decide) (hts _ qfl_X7_9) (fun _ h9 => h9) rfl dX7_canReach_67 ?_
        refine lv_iload_n hx hb dX7_canReach_70 rfl (lv_at hl 1 rfl) ?_
        obtain ⟨k6, hk6, h⟩ := x_rd h
        refine xZald hx hb hK hP 1 3 rfl rfl hk6 dX7_canReach_71 ?_
        obtain ⟨z7, h⟩ := x_nz h
        have h := Option.some.inj h
        subst h
        exact xZret hx hb hr hlocks (xnar_n z7) hP hK hD hS dX7_canReach_72
      have hL42 : ∀ (n : Nat) (v2_8 : Int32) (v3_8 : Int32) (s0_8 : MatS) (s1_8 : BilS) (H : Heap) (locs : List Loc), va_P D vwCl (MatW cA h0 s0_8 ++ BilW cA h1 s1_8) H → va_D A (MatW cA h0 s0_8 ++ BilW cA h1 s1_8) → va_S A s.heap H locs → ∀ ls : Array Slot, lv_has ls 4 [(0, .ref (h0 0)), (1, .ref (h1 0)), (2, .int v2_8), (3, .int v3_8)] → fX7_canReach_L42 N K66 n v2_8 v3_8 s0_8 s1_8 = some q → W p l e rm s m ([.ref (h0 0), .ref (h1 0), .int a2] : List Value).toArray below meth c H locs 0 0 (MQ below (xQ D cA A (MatW cA h0 q.2.1 ++ BilW cA h1 q.2.2) (some (.int q.1))) ([.ref (h0 0), .ref (h1 0), .int a2] : List Value).toArray s 0 0 A) (F0 m 42 ls []) := by
        clear h hP hD hS hl
        intro n
        induction n with
        | zero => intro v2_8 v3_8 s0_8 s1_8 H locs hP hD hS ls hl h; rw [fX7_canReach_L42] at h; cases h
        | succ n ih =>
          intro v2_8 v3_8 s0_8 s1_8 H locs hP hD hS ls hl h
          rw [fX7_canReach_L42] at h
          refine lv_iload_n hx hb dX7_canReach_42 rfl (lv_at hl 3 rfl) ?_
          refine lv_aload_n hx hb dX7_canReach_43 rfl (lv_at hl 1 rfl) ?_
          refine va_getN (D := D) (ci := 3) (v := .int s1_8.2.2.1) (C := RX2) (T := TX2) (N := 4) hx hb hts iX2 hown hK hP 3 rfl rfl 2 (by decide) (hN.use qfn_X7_23) (fun _ h9 => h9) rfl dX7_canReach_44 ?_
          refine lv_icmp_ge (tgt := 66) hx hb dX7_canReach_47 (by decide) (fun c9 => ?_) (fun c9 => ?_)
          · have h := x_t h c9
            exact hJ_K66 v2_8 s0_8 s1_8 _ _ hP hD hS _ (lv_sub hl [0, 2] rfl) h
          · have h := x_f h c9
            refine lv_aload_n hx hb dX7_canReach_50 rfl (lv_at hl 0 rfl) ?_
            refine lv_aload_n hx hb dX7_canReach_51 rfl (lv_at hl 1 rfl) ?_
            refine lv_iload_n hx hb dX7_canReach_52 rfl (lv_at hl 3 rfl) ?_
            obtain ⟨q10, c10, h⟩ := x_call h
            refine xCall (w2 := MatW cA h0 s0_8 ++ BilW cA h1 s1_8) (zRunV (n := 1) (As := [.int v3_8]) (rest := [.ref (h0 0)]) ⟨hx, hb, hml, hown, hts⟩ (kX2_amountAt l D cA ad h1 _ N v3_8 s1_8 q10 c10) qco_X2_amountAt qml_X7_29 qin_X2_amountAt qse_X2_amountAt qini_X2 (by decide +kernel) (by rw [← erm]; rfl) hN hE hS hA hK hP hD [3, 4, 5] rfl rfl (q0 := 0) rfl rfl rfl rfl rfl hl.1 rfl (lv_room (Nat.le_of_ble_eq_true rfl)) dX7_canReach_53 ⟨Nat.zero_le _, Nat.zero_le _⟩) hP hD hS hA [3, 4, 5] [0, 1, 2] [0, 1, 2, 3, 4, 5] rfl (wr := [(h0 0, .inr (7, [.ref (h0 1), .ref (h0 2)])), (h0 1, .inl (cA 3, 1000, .inl (s0_8.1))), (h0 2, .inl (cA 0, 1024, .inl (s0_8.2)))]) rfl rfl rfl rfl rfl (fun H locs hP hD hS => ?_)
            refine lv_iload_n hx hb dX7_canReach_56 rfl (lv_at hl 2 rfl) ?_
            obtain ⟨q11, c11, h⟩ := x_call h
            refine xCall (w2 := MatW cA h0 q11 ++ BilW cA h1 s1_8) (zRunV (n := 2) (As := [.int q10, .int v2_8]) (rest := []) ⟨hx, hb, hml, hown, hts⟩ (kX7_reachWith l D cA ad h0 _ N q10 v2_8 s0_8 q11 c11) qco_X7_reachWith qml_X7_33 qin_X7_reachWith qse_X7_reachWith qini_X7 (by decide +kernel) (by rw [← erm]; rfl) hN hE hS hA hK hP hD [0, 1, 2] rfl rfl (q0 := 0) rfl rfl rfl rfl rfl hl.1 rfl (lv_room (Nat.le_of_ble_eq_true rfl)) dX7_canReach_57 ⟨Nat.zero_le _, Nat.zero_le _⟩) hP hD hS hA [0, 1, 2] [3, 4, 5] [3, 4, 5, 0, 1, 2] rfl (wr := [(h1 0, .inr (3, [.ref (h1 1), .ref (h1 2), .int (s1_8.2.2.1), .int (s1_8.2.2.2)])), (h1 1, .inl (cA 0, 10, .inl (s1_8.1))), (h1 2, .inl (cA 0, 10, .inl (s1_8.2.1)))]) rfl rfl rfl rfl rfl (fun H locs hP hD hS => ?_)
            obtain ⟨x12, ex12⟩ : ∃ y : Int32, y = v3_8 + (1) := ⟨_, rfl⟩
            have h := x_let h ex12
            refine lv_iinc (v := x12) (lv' := [(3, .int x12), (0, .ref (h0 0)), (1, .ref (h1 0)), (2, .int v2_8)]) hx hb dX7_canReach_60 hl (k := 3) rfl (by rw [ex12]; rfl) (by decide) rfl (fun ls hl => ?_)
            refine lv_goto (tgt := 42) hx hb dX7_canReach_63 (by decide) ?_
            exact ih v2_8 x12 q11 s1_8 _ _ hP hD hS _ (lv_sub hl [1, 2, 3, 0] rfl) h
      exact hL42 N v2_4 0 s0_4 s1_4 _ _ hP hD hS _ (lv_sub hl [1, 2, 3, 0] rfl) h
    have hL22 : ∀ (n : Nat) (v2_13 : Int32) (v3_13 : Int32) (s0_13 : MatS) (s1_13 : BilS) (H : Heap) (locs : List Loc), va_P D vwCl (MatW cA h0 s0_13 ++ BilW cA h1 s1_13) H → va_D A (MatW cA h0 s0_13 ++ BilW cA h1 s1_13) → va_S A s.heap H locs → ∀ ls : Array Slot, lv_has ls 4 [(0, .ref (h0 0)), (1, .ref (h1 0)), (2, .int v2_13), (3, .int v3_13)] → fX7_canReach_L22 N K40 n v2_13 v3_13 s0_13 s1_13 = some q → W p l e rm s m ([.ref (h0 0), .ref (h1 0), .int a2] : List Value).toArray below meth c H locs 0 0 (MQ below (xQ D cA A (MatW cA h0 q.2.1 ++ BilW cA h1 q.2.2) (some (.int q.1))) ([.ref (h0 0), .ref (h1 0), .int a2] : List Value).toArray s 0 0 A) (F0 m 22 ls []) := by
      clear h hP hD hS hl
      intro n
      induction n with
      | zero => intro v2_13 v3_13 s0_13 s1_13 H locs hP hD hS ls hl h; rw [fX7_canReach_L22] at h; cases h
      | succ n ih =>
        intro v2_13 v3_13 s0_13 s1_13 H locs hP hD hS ls hl h
        rw [fX7_canReach_L22] at h
        refine lv_iload_n hx hb dX7_canReach_22 rfl (lv_at hl 3 rfl) ?_
        refine lv_iload_n hx hb dX7_canReach_23 rfl (lv_at hl 2 rfl) ?_
        refine lv_icmp_gt (tgt := 40) hx hb dX7_canReach_24 (by decide) (fun c14 => ?_) (fun c14 => ?_)
        · have h := x_t h c14
          exact hJ_K40 v2_13 s0_13 s1_13 _ _ hP hD hS _ (lv_sub hl [0, 1, 2] rfl) h
        · have h := x_f h c14
          refine lv_aload_n hx hb dX7_canReach_27 rfl (lv_at hl 0 rfl) ?_
          refine va_get (D := D) (ci := 7) (v := .ref (h0 1)) (C := RX7) (T := TX7) (N := 2) hx hb hts iX7 hown hK hP 0 rfl rfl 0 (by decide) (hts _ qfl_X7_9) (fun _ h9 => h9) rfl dX7_canReach_28 ?_
          refine lv_iload_n hx hb dX7_canReach_31 rfl (lv_at hl 3 rfl) ?_
          refine lv_iconst (v := 0) hx hb dX7_canReach_32 (by decide) ?_
          obtain ⟨k15, hk15, h⟩ := x_rd h
          refine xZast (w2 := fun zz => MatW cA h0 ((Mats0 s0_13 zz)) ++ BilW cA h1 s1_13) hx hb hK hP hD hS 1 3 rfl rfl hk15 (fun _ => rfl) dX7_canReach_33 (fun g16 eg16 H locs hP hD hS => ?_)
          have h := x_let h eg16
          have hP : va_P D vwCl (MatW cA h0 ((Mats0 s0_13 g16)) ++ BilW cA h1 s1_13) H := hP
          have hD : va_D A (MatW cA h0 ((Mats0 s0_13 g16)) ++ BilW cA h1 s1_13) := hD
          obtain ⟨x17, ex17⟩ : ∃ y : Int32, y = v3_13 + (1) := ⟨_, rfl⟩
          have h := x_let h ex17
          refine lv_iinc (v := x17) (lv' := [(3, .int x17), (0, .ref (h0 0)), (1, .ref (h1 0)), (2, .int v2_13)]) hx hb dX7_canReach_34 hl (k := 3) rfl (by rw [ex17]; rfl) (by decide) rfl (fun ls hl => ?_)
          refine lv_goto (tgt := 22) hx hb dX7_canReach_37 (by decide) ?_
          exact ih v2_13 x17 ((Mats0 s0_13 g16)) s1_13 _ _ hP hD hS _ (lv_sub hl [1, 2, 3, 0] rfl) h
    exact hL22 N a2 1 ((Mats0 s0 g3)) s1 _ _ hP hD hS _ (lv_sub hl [1, 2, 3, 0] rfl) h
  · have h := x_t h c2
    refine lv_iconst (v := 0) hx hb dX7_canReach_11 (by decide) ?_
    have h := Option.some.inj h
    subst h
    exact xZret (v := 0) hx hb hr hlocks (by decide) hP hK hD hS dX7_canReach_12
def fX7_sumSets_L22 (N : Nat) (K56 : Int32 → Int32 → MatS → BilS → Option (Int32 × MatS × BilS)) : Nat → Int32 → Int32 → Int32 → MatS → BilS → Option (Int32 × MatS × BilS)
  | 0, _, _, _, _, _ => none
  | n + 1, v2_8, v3_8, v4_8, s0_8, s1_8 =>
    if v2_8 ≤ v4_8 then
      K56 v2_8 v3_8 s0_8 s1_8
    else
      xrd 1024 v4_8 fun k10 =>
      xcall (fX2_amountAt N v3_8 s1_8) fun q11 =>
      xrd 1024 (v2_8 + v4_8) fun k12 =>
      xlet (upd s0_8.2 k12 ((s0_8.2 k10) + q11)) fun g13 =>
      xlet (v4_8 + (1)) fun x14 =>
      fX7_sumSets_L22 N K56 n v2_8 v3_8 x14 ((Mats1 s0_8 g13)) s1_8
def fX7_sumSets_L11 (N : Nat) (K66 : Int32 → MatS → BilS → Option (Int32 × MatS × BilS)) : Nat → Int32 → Int32 → MatS → BilS → Option (Int32 × MatS × BilS)
  | 0, _, _, _, _ => none
  | n + 1, v2_3, v3_3, s0_3, s1_3 =>
    if s1_3.2.2.1 ≤ v3_3 then
      K66 v2_3 s0_3 s1_3
    else
      xjoin (fun (v2_5 : Int32) (v3_5 : Int32) (s0_5 : MatS) (s1_5 : BilS) =>
          xlet (v2_5 * 2) fun x6 =>
          xlet (v3_5 + (1)) fun x7 =>
          fX7_sumSets_L11 N K66 n x6 x7 s0_5 s1_5
        ) fun K56 =>
      fX7_sumSets_L22 N K56 N v2_3 v3_3 0 s0_3 s1_3
def fX7_sumSets (N : Nat)  (s0 : MatS) (s1 : BilS) : Option (Int32 × MatS × BilS) :=
  xlet (upd s0.2 0 0) fun g1 =>
  xjoin (fun (v2_2 : Int32) (s0_2 : MatS) (s1_2 : BilS) =>
      some (v2_2, s0_2, s1_2)
    ) fun K66 =>
  fX7_sumSets_L11 N K66 N 1 0 ((Mats1 s0 g1)) s1
set_option maxRecDepth 100000 in
set_option maxHeartbeats 4000000 in
theorem kX7_sumSets (l : Launch) (D : va_G) (cA : Nat → ClassId) (ad : Nat → Nat) (h0 : Nat → Nat) (h1 : Nat → Nat) (sz N : Nat)  (s0 : MatS) (s1 : BilS) (q : Int32 × MatS × BilS) (h : fX7_sumSets N s0 s1 = some q) : zM l yX7_sumSets cX7_sumSets 5 (some .int) ({ frames := 1, cells := 0, slots := 0, locals := 21 }) D cA ad (MatW cA h0 s0 ++ BilW cA h1 s1) sz [.ref (h0 0), .ref (h1 0)] (some (.int q.1)) (MatW cA h0 q.2.1 ++ BilW cA h1 q.2.2) := by
  generalize erm : ({ frames := 1, cells := 0, slots := 0, locals := 21 } : Room) = rm
  refine zMet (by decide) (Nat.le_of_ble_eq_true rfl) ?_
  intro p e s m below meth c hx hb hr hlocks hml hts hown hin hK hP A eA hD hS hA hsz hN hE ls hl
  have hl : lv_has ls 5 [(0, .ref (h0 0)), (1, .ref (h1 0))] := hl
  clear eA
  rw [fX7_sumSets] at h
  refine lv_iconst (v := 1) hx hb dX7_sumSets_0 (by decide) ?_
  refine lv_istore_n (lv' := [(2, .int 1), (0, .ref (h0 0)), (1, .ref (h1 0))]) hx hb dX7_sumSets_1 rfl hl (by decide) rfl (fun ls hl => ?_)
  refine lv_aload_n hx hb dX7_sumSets_2 rfl (lv_at hl 1 rfl) ?_
  refine va_get (D := D) (ci := 7) (v := .ref (h0 2)) (C := RX7) (T := TX7) (N := 2) hx hb hts iX7 hown hK hP 0 rfl rfl 1 (by decide) (hts _ qfl_X7_15) (fun _ h9 => h9) rfl dX7_sumSets_3 ?_
  refine lv_iconst (v := 0) hx hb dX7_sumSets_6 (by decide) ?_
  refine lv_iconst (v := 0) hx hb dX7_sumSets_7 (by decide) ?_
  refine xIast (w2 := fun zz => MatW cA h0 ((Mats1 s0 zz)) ++ BilW cA h1 s1) hx hb hK hP hD hS 2 0 rfl rfl (x_lit (k := 0) (by decide)) (fun _ => rfl) dX7_sumSets_8 (fun g1 eg1 H locs hP hD hS => ?_)
  have h := x_let h eg1
  have hP : va_P D vwCl (MatW cA h0 ((Mats1 s0 g1)) ++ BilW cA h1 s1) H := hP
  have hD : va_D A (MatW cA h0 ((Mats1 s0 g1)) ++ BilW cA h1 s1) := hD
  refine lv_iconst (v := 0) hx hb dX7_sumSets_9 (by decide) ?_
  refine lv_istore_n (lv' := [(3, .int 0), (2, .int 1), (0, .ref (h0 0)), (1, .ref (h1 0))]) hx hb dX7_sumSets_10 rfl hl (by decide) rfl (fun ls hl => ?_)
  obtain ⟨K66, eK66, h⟩ := x_join h
  have hJ_K66 : ∀ (v2_2 : Int32) (s0_2 : MatS) (s1_2 : BilS) (H : Heap) (locs : List Loc), va_P D vwCl (MatW cA h0 s0_2 ++ BilW cA h1 s1_2) H → va_D A (MatW cA h0 s0_2 ++ BilW cA h1 s1_2) → va_S A s.heap H locs → ∀ ls : Array Slot, lv_has ls 5 [(2, .int v2_2)] → K66 v2_2 s0_2 s1_2 = some q → W p l e rm s m ([.ref (h0 0), .ref (h1 0)] : List Value).toArray below meth c H locs 0 0 (MQ below (xQ D cA A (MatW cA h0 q.2.1 ++ BilW cA h1 q.2.2) (some (.int q.1))) ([.ref (h0 0), .ref (h1 0)] : List Value).toArray s 0 0 A) (F0 m 66 ls []) := by
    clear h hP hD hS hl
    intro v2_2 s0_2 s1_2 H locs hP hD hS ls hl h
    rw [eK66] at h
    refine lv_iload_n hx hb dX7_sumSets_66 rfl (lv_at hl 0 rfl) ?_
    have h := Option.some.inj h
    subst h
    exact xIret hx hb hr hlocks hP hK hD hS dX7_sumSets_67
  have hL11 : ∀ (n : Nat) (v2_3 : Int32) (v3_3 : Int32) (s0_3 : MatS) (s1_3 : BilS) (H : Heap) (locs : List Loc), va_P D vwCl (MatW cA h0 s0_3 ++ BilW cA h1 s1_3) H → va_D A (MatW cA h0 s0_3 ++ BilW cA h1 s1_3) → va_S A s.heap H locs → ∀ ls : Array Slot, lv_has ls 5 [(0, .ref (h0 0)), (1, .ref (h1 0)), (2, .int v2_3), (3, .int v3_3)] → fX7_sumSets_L11 N K66 n v2_3 v3_3 s0_3 s1_3 = some q → W p l e rm s m ([.ref (h0 0), .ref (h1 0)] : List Value).toArray below meth c H locs 0 0 (MQ below (xQ D cA A (MatW cA h0 q.2.1 ++ BilW cA h1 q.2.2) (some (.int q.1))) ([.ref (h0 0), .ref (h1 0)] : List Value).toArray s 0 0 A) (F0 m 11 ls []) := by
    clear h hP hD hS hl
    intro n
    induction n with
    | zero => intro v2_3 v3_3 s0_3 s1_3 H locs hP hD hS ls hl h; rw [fX7_sumSets_L11] at h; cases h
    | succ n ih =>
      intro v2_3 v3_3 s0_3 s1_3 H locs hP hD hS ls hl h
      rw [fX7_sumSets_L11] at h
      refine lv_iload_n hx hb dX7_sumSets_11 rfl (lv_at hl 3 rfl) ?_
      refine lv_aload_n hx hb dX7_sumSets_12 rfl (lv_at hl 1 rfl) ?_
      refine va_getN (D := D) (ci := 3) (v := .int s1_3.2.2.1) (C := RX2) (T := TX2) (N := 4) hx hb hts iX2 hown hK hP 3 rfl rfl 2 (by decide) (hN.use qfn_X7_23) (fun _ h9 => h9) rfl dX7_sumSets_13 ?_
      refine lv_icmp_ge (tgt := 66) hx hb dX7_sumSets_16 (by decide) (fun c4 => ?_) (fun c4 => ?_)
      · have h := x_t h c4
        exact hJ_K66 v2_3 s0_3 s1_3 _ _ hP hD hS _ (lv_sub hl [2] rfl) h
      · have h := x_f h c4
        refine lv_iconst (v := 0) hx hb dX7_sumSets_19 (by decide) ?_
        refine lv_istore (lv' := [(4, .int 0), (0, .ref (h0 0)), (1, .ref (h1 0)), (2, .int v2_3), (3, .int v3_3)]) hx hb dX7_sumSets_20 hl (by decide) rfl (fun ls hl => ?_)
        obtain ⟨K56, eK56, h⟩ := x_join h
        have hJ_K56 : ∀ (v2_5 : Int32) (v3_5 : Int32) (s0_5 : MatS) (s1_5 : BilS) (H : Heap) (locs : List Loc), va_P D vwCl (MatW cA h0 s0_5 ++ BilW cA h1 s1_5) H → va_D A (MatW cA h0 s0_5 ++ BilW cA h1 s1_5) → va_S A s.heap H locs → ∀ ls : Array Slot, lv_has ls 5 [(0, .ref (h0 0)), (1, .ref (h1 0)), (2, .int v2_5), (3, .int v3_5)] → K56 v2_5 v3_5 s0_5 s1_5 = some q → W p l e rm s m ([.ref (h0 0), .ref (h1 0)] : List Value).toArray below meth c H locs 0 0 (MQ below (xQ D cA A (MatW cA h0 q.2.1 ++ BilW cA h1 q.2.2) (some (.int q.1))) ([.ref (h0 0), .ref (h1 0)] : List Value).toArray s 0 0 A) (F0 m 56 ls []) := by
          clear h hP hD hS hl
          intro v2_5 v3_5 s0_5 s1_5 H locs hP hD hS ls hl h
          rw [eK56] at h
          refine lv_iload_n hx hb dX7_sumSets_56 rfl (lv_at hl 2 rfl) ?_
          refine lv_iconst (v := 2) hx hb dX7_sumSets_57 (by decide) ?_
          refine lv_imul hx hb dX7_sumSets_58 ?_
          refine lv_topi (fun x6 ex6 => ?_)
          have h := x_let h ex6
          refine lv_istore_n (lv' := [(2, .int x6), (0, .ref (h0 0)), (1, .ref (h1 0)), (3, .int v3_5)]) hx hb dX7_sumSets_59 rfl hl (by decide) rfl (fun ls hl => ?_)
          obtain ⟨x7, ex7⟩ : ∃ y : Int32, y = v3_5 + (1) := ⟨_, rfl⟩
          have h := x_let h ex7
          refine lv_iinc (v := x7) (lv' := [(3, .int x7), (2, .int x6), (0, .ref (h0 0)), (1, .ref (h1 0))]) hx hb dX7_sumSets_60 hl (k := 3) rfl (by rw [ex7]; rfl) (by decide) rfl (fun ls hl => ?_)
          refine lv_goto (tgt := 11) hx hb dX7_sumSets_63 (by decide) ?_
          exact ih x6 x7 s0_5 s1_5 _ _ hP hD hS _ (lv_sub hl [2, 3, 1, 0] rfl) h
        have hL22 : ∀ (n : Nat) (v2_8 : Int32) (v3_8 : Int32) (v4_8 : Int32) (s0_8 : MatS) (s1_8 : BilS) (H : Heap) (locs : List Loc), va_P D vwCl (MatW cA h0 s0_8 ++ BilW cA h1 s1_8) H → va_D A (MatW cA h0 s0_8 ++ BilW cA h1 s1_8) → va_S A s.heap H locs → ∀ ls : Array Slot, lv_has ls 5 [(0, .ref (h0 0)), (1, .ref (h1 0)), (2, .int v2_8), (3, .int v3_8), (4, .int v4_8)] → fX7_sumSets_L22 N K56 n v2_8 v3_8 v4_8 s0_8 s1_8 = some q → W p l e rm s m ([.ref (h0 0), .ref (h1 0)] : List Value).toArray below meth c H locs 0 0 (MQ below (xQ D cA A (MatW cA h0 q.2.1 ++ BilW cA h1 q.2.2) (some (.int q.1))) ([.ref (h0 0), .ref (h1 0)] : List Value).toArray s 0 0 A) (F0 m 22 ls []) := by
          clear h hP hD hS hl
          intro n
          induction n with
          | zero => intro v2_8 v3_8 v4_8 s0_8 s1_8 H locs hP hD hS ls hl h; rw [fX7_sumSets_L22] at h; cases h
          | succ n ih =>
            intro v2_8 v3_8 v4_8 s0_8 s1_8 H locs hP hD hS ls hl h
            rw [fX7_sumSets_L22] at h
            refine lv_iload hx hb dX7_sumSets_22 (lv_at hl 4 rfl) ?_
            refine lv_iload_n hx hb dX7_sumSets_24 rfl (lv_at hl 2 rfl) ?_
            refine lv_icmp_ge (tgt := 56) hx hb dX7_sumSets_25 (by decide) (fun c9 => ?_) (fun c9 => ?_)
            · have h := x_t h c9
              exact hJ_K56 v2_8 v3_8 s0_8 s1_8 _ _ hP hD hS _ (lv_sub hl [0, 1, 2, 3] rfl) h
            · have h := x_f h c9
              refine lv_aload_n hx hb dX7_sumSets_28 rfl (lv_at hl 0 rfl) ?_
              refine va_get (D := D) (ci := 7) (v := .ref (h0 2)) (C := RX7) (T := TX7) (N := 2) hx hb hts iX7 hown hK hP 0 rfl rfl 1 (by decide) (hts _ qfl_X7_15) (fun _ h9 => h9) rfl dX7_sumSets_29 ?_
              refine lv_iload_n hx hb dX7_sumSets_32 rfl (lv_at hl 2 rfl) ?_
              refine lv_iload hx hb dX7_sumSets_33 (lv_at hl 4 rfl) ?_
              refine lv_iadd hx hb dX7_sumSets_35 ?_
              refine lv_aload_n hx hb dX7_sumSets_36 rfl (lv_at hl 0 rfl) ?_
              refine va_get (D := D) (ci := 7) (v := .ref (h0 2)) (C := RX7) (T := TX7) (N := 2) hx hb hts iX7 hown hK hP 0 rfl rfl 1 (by decide) (hts _ qfl_X7_15) (fun _ h9 => h9) rfl dX7_sumSets_37 ?_
              refine lv_iload hx hb dX7_sumSets_40 (lv_at hl 4 rfl) ?_
              obtain ⟨k10, hk10, h⟩ := x_rd h
              refine xIald hx hb hK hP 2 0 rfl rfl hk10 dX7_sumSets_42 ?_
              refine lv_aload_n hx hb dX7_sumSets_43 rfl (lv_at hl 1 rfl) ?_
              refine lv_iload_n hx hb dX7_sumSets_44 rfl (lv_at hl 3 rfl) ?_
              obtain ⟨q11, c11, h⟩ := x_call h
              refine xCall (w2 := MatW cA h0 s0_8 ++ BilW cA h1 s1_8) (zRunV (n := 1) (As := [.int v3_8]) (rest := [.int (s0_8.2 k10), .int (v2_8 + v4_8), .ref (h0 2)]) ⟨hx, hb, hml, hown, hts⟩ (kX2_amountAt l D cA ad h1 _ N v3_8 s1_8 q11 c11) qco_X2_amountAt qml_X7_29 qin_X2_amountAt qse_X2_amountAt qini_X2 (by decide +kernel) (by rw [← erm]; rfl) hN hE hS hA hK hP hD [3, 4, 5] rfl rfl (q0 := 0) rfl rfl rfl rfl rfl hl.1 rfl (lv_room (Nat.le_of_ble_eq_true rfl)) dX7_sumSets_45 ⟨Nat.zero_le _, Nat.zero_le _⟩) hP hD hS hA [3, 4, 5] [0, 1, 2] [0, 1, 2, 3, 4, 5] rfl (wr := [(h0 0, .inr (7, [.ref (h0 1), .ref (h0 2)])), (h0 1, .inl (cA 3, 1000, .inl (s0_8.1))), (h0 2, .inl (cA 0, 1024, .inl (s0_8.2)))]) rfl rfl rfl rfl rfl (fun H locs hP hD hS => ?_)
              refine lv_iadd hx hb dX7_sumSets_48 ?_
              obtain ⟨k12, hk12, h⟩ := x_rd h
              refine xIast (w2 := fun zz => MatW cA h0 ((Mats1 s0_8 zz)) ++ BilW cA h1 s1_8) hx hb hK hP hD hS 2 0 rfl rfl hk12 (fun _ => rfl) dX7_sumSets_49 (fun g13 eg13 H locs hP hD hS => ?_)
              have h := x_let h eg13
              have hP : va_P D vwCl (MatW cA h0 ((Mats1 s0_8 g13)) ++ BilW cA h1 s1_8) H := hP
              have hD : va_D A (MatW cA h0 ((Mats1 s0_8 g13)) ++ BilW cA h1 s1_8) := hD
              obtain ⟨x14, ex14⟩ : ∃ y : Int32, y = v4_8 + (1) := ⟨_, rfl⟩
              have h := x_let h ex14
              refine lv_iinc (v := x14) (lv' := [(4, .int x14), (0, .ref (h0 0)), (1, .ref (h1 0)), (2, .int v2_8), (3, .int v3_8)]) hx hb dX7_sumSets_50 hl (k := 4) rfl (by rw [ex14]; rfl) (by decide) rfl (fun ls hl => ?_)
              refine lv_goto (tgt := 22) hx hb dX7_sumSets_53 (by decide) ?_
              exact ih v2_8 v3_8 x14 ((Mats1 s0_8 g13)) s1_8 _ _ hP hD hS _ (lv_sub hl [1, 2, 3, 4, 0] rfl) h
        exact hL22 N v2_3 v3_3 0 s0_3 s1_3 _ _ hP hD hS _ (lv_sub hl [1, 2, 3, 4, 0] rfl) h
  exact hL11 N 1 0 ((Mats1 s0 g1)) s1 _ _ hP hD hS _ (lv_sub hl [2, 3, 1, 0] rfl) h
def fX7_hasSet_L9 (N : Nat) (K34 : MatS → BilS → Option (Int32 × MatS × BilS)) : Nat → Int32 → Int32 → Int32 → MatS → BilS → Option (Int32 × MatS × BilS)
  | 0, _, _, _, _, _ => none
  | n + 1, v2_3, v3_3, v4_3, s0_3, s1_3 =>
    if v3_3 ≤ v4_3 then
      K34 s0_3 s1_3
    else
      xrd 1024 v4_3 fun k5 =>
      if (s0_3.2 k5) = v2_3 then
        some (1, s0_3, s1_3)
      else
        xlet (v4_3 + (1)) fun x7 =>
        fX7_hasSet_L9 N K34 n v2_3 v3_3 x7 s0_3 s1_3
def fX7_hasSet (N : Nat) (a2 : Int32) (s0 : MatS) (s1 : BilS) : Option (Int32 × MatS × BilS) :=
  xcall (fX7_sumSets N s0 s1) fun q1 =>
  xjoin (fun (s0_2 : MatS) (s1_2 : BilS) =>
      some (0, s0_2, s1_2)
    ) fun K34 =>
  fX7_hasSet_L9 N K34 N a2 q1.1 1 q1.2.1 q1.2.2
set_option maxRecDepth 100000 in
set_option maxHeartbeats 4000000 in
theorem kX7_hasSet (l : Launch) (D : va_G) (cA : Nat → ClassId) (ad : Nat → Nat) (h0 : Nat → Nat) (h1 : Nat → Nat) (sz N : Nat) (a2 : Int32) (s0 : MatS) (s1 : BilS) (q : Int32 × MatS × BilS) (h : fX7_hasSet N a2 s0 s1 = some q) : zM l yX7_hasSet cX7_hasSet 5 (some .boolean) ({ frames := 2, cells := 0, slots := 0, locals := 45 }) D cA ad (MatW cA h0 s0 ++ BilW cA h1 s1) sz [.ref (h0 0), .ref (h1 0), .int a2] (some (.int q.1)) (MatW cA h0 q.2.1 ++ BilW cA h1 q.2.2) := by
  generalize erm : ({ frames := 2, cells := 0, slots := 0, locals := 45 } : Room) = rm
  refine zMet (by decide) (Nat.le_of_ble_eq_true rfl) ?_
  intro p e s m below meth c hx hb hr hlocks hml hts hown hin hK hP A eA hD hS hA hsz hN hE ls hl
  have hl : lv_has ls 5 [(0, .ref (h0 0)), (1, .ref (h1 0)), (2, .int a2)] := hl
  clear eA
  rw [fX7_hasSet] at h
  refine lv_aload_n hx hb dX7_hasSet_0 rfl (lv_at hl 0 rfl) ?_
  refine lv_aload_n hx hb dX7_hasSet_1 rfl (lv_at hl 1 rfl) ?_
  obtain ⟨q1, c1, h⟩ := x_call h
  refine xCall (w2 := MatW cA h0 q1.2.1 ++ BilW cA h1 q1.2.2) (zRunV (n := 1) (As := [.ref (h1 0)]) (rest := []) ⟨hx, hb, hml, hown, hts⟩ (kX7_sumSets l D cA ad h0 h1 _ N s0 s1 q1 c1) qco_X7_sumSets qml_X7_37 qin_X7_sumSets qse_X7_sumSets qini_X7 (by decide +kernel) (by rw [← erm]; rfl) hN hE hS hA hK hP hD [0, 1, 2, 3, 4, 5] rfl rfl (q0 := 0) rfl rfl rfl rfl rfl hl.1 rfl (lv_room (Nat.le_of_ble_eq_true rfl)) dX7_hasSet_2 ⟨Nat.zero_le _, Nat.zero_le _⟩) hP hD hS hA [0, 1, 2, 3, 4, 5] [] [0, 1, 2, 3, 4, 5] rfl (wr := []) rfl rfl rfl rfl rfl (fun H locs hP hD hS => ?_)
  refine lv_istore_n (lv' := [(3, .int q1.1), (0, .ref (h0 0)), (1, .ref (h1 0)), (2, .int a2)]) hx hb dX7_hasSet_5 rfl hl (by decide) rfl (fun ls hl => ?_)
  refine lv_iconst (v := 1) hx hb dX7_hasSet_6 (by decide) ?_
  refine lv_istore (lv' := [(4, .int 1), (3, .int q1.1), (0, .ref (h0 0)), (1, .ref (h1 0)), (2, .int a2)]) hx hb dX7_hasSet_7 hl (by decide) rfl (fun ls hl => ?_)
  obtain ⟨K34, eK34, h⟩ := x_join h
  have hJ_K34 : ∀ (s0_2 : MatS) (s1_2 : BilS) (H : Heap) (locs : List Loc), va_P D vwCl (MatW cA h0 s0_2 ++ BilW cA h1 s1_2) H → va_D A (MatW cA h0 s0_2 ++ BilW cA h1 s1_2) → va_S A s.heap H locs → ∀ ls : Array Slot, lv_has ls 5 [] → K34 s0_2 s1_2 = some q → W p l e rm s m ([.ref (h0 0), .ref (h1 0), .int a2] : List Value).toArray below meth c H locs 0 0 (MQ below (xQ D cA A (MatW cA h0 q.2.1 ++ BilW cA h1 q.2.2) (some (.int q.1))) ([.ref (h0 0), .ref (h1 0), .int a2] : List Value).toArray s 0 0 A) (F0 m 34 ls []) := by
    clear h hP hD hS hl
    intro s0_2 s1_2 H locs hP hD hS ls hl h
    rw [eK34] at h
    refine lv_iconst (v := 0) hx hb dX7_hasSet_34 (by decide) ?_
    have h := Option.some.inj h
    subst h
    exact xZret (v := 0) hx hb hr hlocks (by decide) hP hK hD hS dX7_hasSet_35
  have hL9 : ∀ (n : Nat) (v2_3 : Int32) (v3_3 : Int32) (v4_3 : Int32) (s0_3 : MatS) (s1_3 : BilS) (H : Heap) (locs : List Loc), va_P D vwCl (MatW cA h0 s0_3 ++ BilW cA h1 s1_3) H → va_D A (MatW cA h0 s0_3 ++ BilW cA h1 s1_3) → va_S A s.heap H locs → ∀ ls : Array Slot, lv_has ls 5 [(0, .ref (h0 0)), (2, .int v2_3), (3, .int v3_3), (4, .int v4_3)] → fX7_hasSet_L9 N K34 n v2_3 v3_3 v4_3 s0_3 s1_3 = some q → W p l e rm s m ([.ref (h0 0), .ref (h1 0), .int a2] : List Value).toArray below meth c H locs 0 0 (MQ below (xQ D cA A (MatW cA h0 q.2.1 ++ BilW cA h1 q.2.2) (some (.int q.1))) ([.ref (h0 0), .ref (h1 0), .int a2] : List Value).toArray s 0 0 A) (F0 m 9 ls []) := by
    clear h hP hD hS hl
    intro n
    induction n with
    | zero => intro v2_3 v3_3 v4_3 s0_3 s1_3 H locs hP hD hS ls hl h; rw [fX7_hasSet_L9] at h; cases h
    | succ n ih =>
      intro v2_3 v3_3 v4_3 s0_3 s1_3 H locs hP hD hS ls hl h
      rw [fX7_hasSet_L9] at h
      refine lv_iload hx hb dX7_hasSet_9 (lv_at hl 3 rfl) ?_
      refine lv_iload_n hx hb dX7_hasSet_11 rfl (lv_at hl 2 rfl) ?_
      refine lv_icmp_ge (tgt := 34) hx hb dX7_hasSet_12 (by decide) (fun c4 => ?_) (fun c4 => ?_)
      · have h := x_t h c4
        exact hJ_K34 s0_3 s1_3 _ _ hP hD hS _ (lv_sub hl [] rfl) h
      · have h := x_f h c4
        refine lv_aload_n hx hb dX7_hasSet_15 rfl (lv_at hl 0 rfl) ?_
        refine va_get (D := D) (ci := 7) (v := .ref (h0 2)) (C := RX7) (T := TX7) (N := 2) hx hb hts iX7 hown hK hP 0 rfl rfl 1 (by decide) (hts _ qfl_X7_15) (fun _ h9 => h9) rfl dX7_hasSet_16 ?_
        refine lv_iload hx hb dX7_hasSet_19 (lv_at hl 3 rfl) ?_
        obtain ⟨k5, hk5, h⟩ := x_rd h
        refine xIald hx hb hK hP 2 0 rfl rfl hk5 dX7_hasSet_21 ?_
        refine lv_iload_n hx hb dX7_hasSet_22 rfl (lv_at hl 1 rfl) ?_
        refine lv_icmp_ne (tgt := 28) hx hb dX7_hasSet_23 (by decide) (fun c6 => ?_) (fun c6 => ?_)
        · have h := x_f h c6
          obtain ⟨x7, ex7⟩ : ∃ y : Int32, y = v4_3 + (1) := ⟨_, rfl⟩
          have h := x_let h ex7
          refine lv_iinc (v := x7) (lv' := [(4, .int x7), (0, .ref (h0 0)), (2, .int v2_3), (3, .int v3_3)]) hx hb dX7_hasSet_28 hl (k := 3) rfl (by rw [ex7]; rfl) (by decide) rfl (fun ls hl => ?_)
          refine lv_goto (tgt := 9) hx hb dX7_hasSet_31 (by decide) ?_
          exact ih v2_3 v3_3 x7 s0_3 s1_3 _ _ hP hD hS _ (lv_sub hl [1, 2, 3, 0] rfl) h
        · have h := x_t h c6
          refine lv_iconst (v := 1) hx hb dX7_hasSet_26 (by decide) ?_
          have h := Option.some.inj h
          subst h
          exact xZret (v := 1) hx hb hr hlocks (by decide) hP hK hD hS dX7_hasSet_27
  exact hL9 N a2 q1.1 1 q1.2.1 q1.2.2 _ _ hP hD hS _ (lv_sub hl [2, 4, 1, 0] rfl) h
def fX7_isPreferred (N : Nat) (a0 : Int32) (a1 : Int32)  : Option (Int32) :=
  xcall (fJ6_bitCount_0f7a4 N a0) fun q1 =>
  xcall (fJ6_bitCount_0f7a4 N a1) fun q2 =>
  if q1 = q2 then
    xlet (a0 ^^^ a1) fun x4 =>
    xlet (x4 &&& (-x4)) fun x5 =>
    xjoin (fun (t0_6 : Int32) =>
        xnz (xnar .boolean t0_6) <|
        some t0_6
      ) fun J51 =>
    if (a0 &&& x5) = 0 then
      J51 0
    else
      J51 1
  else
    xjoin (fun (t0_9 : Int32) =>
        xnz (xnar .boolean t0_9) <|
        some t0_9
      ) fun J25 =>
    if q2 ≤ q1 then
      J25 0
    else
      J25 1
set_option maxRecDepth 100000 in
set_option maxHeartbeats 4000000 in
theorem kX7_isPreferred (l : Launch) (D : va_G) (cA : Nat → ClassId) (ad : Nat → Nat)  (sz N : Nat) (a0 : Int32) (a1 : Int32)  (q : Int32) (h : fX7_isPreferred N a0 a1 = some q) : zM l yX7_isPreferred cX7_isPreferred 6 (some .boolean) ({ frames := 1, cells := 0, slots := 0, locals := 20 }) D cA ad (([] : va_W)) sz [.int a0, .int a1] (some (.int q)) (([] : va_W)) := by
  generalize erm : ({ frames := 1, cells := 0, slots := 0, locals := 20 } : Room) = rm
  refine zMet (by decide) (Nat.le_of_ble_eq_true rfl) ?_
  intro p e s m below meth c hx hb hr hlocks hml hts hown hin hK hP A eA hD hS hA hsz hN hE ls hl
  have hl : lv_has ls 6 [(0, .int a0), (1, .int a1)] := hl
  clear eA
  rw [fX7_isPreferred] at h
  refine lv_iload_n hx hb dX7_isPreferred_0 rfl (lv_at hl 0 rfl) ?_
  obtain ⟨q1, c1, h⟩ := x_call h
  refine xCall (w2 := ([] : va_W)) (xRunS (n := 1) (As := [.int a0]) (rest := []) ⟨hx, hb, hml, hown, hts⟩ (kJ6_bitCount_0f7a4 l D cA  _ N a0 q1 c1) qco_J6_bitCount_0f7a4 qml_X7_45 qst_J6_bitCount_0f7a4 qini_J6 (by decide +kernel) (by rw [← erm]; rfl) hK hP hD [] rfl rfl rfl rfl hl.1 rfl (lv_room (Nat.le_of_ble_eq_true rfl)) dX7_isPreferred_1 ⟨Nat.zero_le _, Nat.zero_le _⟩) hP hD hS hA [] [] [] rfl (wr := []) rfl rfl rfl rfl rfl (fun H locs hP hD hS => ?_)
  refine lv_istore_n (lv' := [(2, .int q1), (0, .int a0), (1, .int a1)]) hx hb dX7_isPreferred_4 rfl hl (by decide) rfl (fun ls hl => ?_)
  refine lv_iload_n hx hb dX7_isPreferred_5 rfl (lv_at hl 2 rfl) ?_
  obtain ⟨q2, c2, h⟩ := x_call h
  refine xCall (w2 := ([] : va_W)) (xRunS (n := 1) (As := [.int a1]) (rest := []) ⟨hx, hb, hml, hown, hts⟩ (kJ6_bitCount_0f7a4 l D cA  _ N a1 q2 c2) qco_J6_bitCount_0f7a4 qml_X7_45 qst_J6_bitCount_0f7a4 qini_J6 (by decide +kernel) (by rw [← erm]; rfl) hK hP hD [] rfl rfl rfl rfl hl.1 rfl (lv_room (Nat.le_of_ble_eq_true rfl)) dX7_isPreferred_6 ⟨Nat.zero_le _, Nat.zero_le _⟩) hP hD hS hA [] [] [] rfl (wr := []) rfl rfl rfl rfl rfl (fun H locs hP hD hS => ?_)
  refine lv_istore_n (lv' := [(3, .int q2), (2, .int q1), (0, .int a0), (1, .int a1)]) hx hb dX7_isPreferred_9 rfl hl (by decide) rfl (fun ls hl => ?_)
  refine lv_iload_n hx hb dX7_isPreferred_10 rfl (lv_at hl 1 rfl) ?_
  refine lv_iload_n hx hb dX7_isPreferred_11 rfl (lv_at hl 0 rfl) ?_
  refine lv_icmp_eq (tgt := 26) hx hb dX7_isPreferred_12 (by decide) (fun c3 => ?_) (fun c3 => ?_)
  · have h := x_t h c3
    refine lv_iload_n hx hb dX7_isPreferred_26 rfl (lv_at hl 2 rfl) ?_
    refine lv_iload_n hx hb dX7_isPreferred_27 rfl (lv_at hl 3 rfl) ?_
    refine lv_ixor hx hb dX7_isPreferred_28 ?_
    refine lv_topi (fun x4 ex4 => ?_)
    have h := x_let h ex4
    refine lv_istore (lv' := [(4, .int x4), (3, .int q2), (2, .int q1), (0, .int a0), (1, .int a1)]) hx hb dX7_isPreferred_29 hl (by decide) rfl (fun ls hl => ?_)
    refine lv_iload hx hb dX7_isPreferred_31 (lv_at hl 0 rfl) ?_
    refine lv_iload hx hb dX7_isPreferred_33 (lv_at hl 0 rfl) ?_
    refine lv_ineg hx hb dX7_isPreferred_35 ?_
    refine lv_iand hx hb dX7_isPreferred_36 ?_
    refine lv_topi (fun x5 ex5 => ?_)
    have h := x_let h ex5
    refine lv_istore (lv' := [(5, .int x5), (4, .int x4), (3, .int q2), (2, .int q1), (0, .int a0), (1, .int a1)]) hx hb dX7_isPreferred_37 hl (by decide) rfl (fun ls hl => ?_)
    refine lv_iload_n hx hb dX7_isPreferred_39 rfl (lv_at hl 4 rfl) ?_
    refine lv_iload hx hb dX7_isPreferred_40 (lv_at hl 0 rfl) ?_
    refine lv_iand hx hb dX7_isPreferred_42 ?_
    obtain ⟨J51, eJ51, h⟩ := x_join h
    have hJ_J51 : ∀ (t0_6 : Int32) (H : Heap) (locs : List Loc), va_P D vwCl (([] : va_W)) H → va_D A (([] : va_W)) → va_S A s.heap H locs → ∀ ls : Array Slot, lv_has ls 6 [] → J51 t0_6 = some q → W p l e rm s m ([.int a0, .int a1] : List Value).toArray below meth c H locs 0 0 (MQ below (xQ D cA A (([] : va_W)) (some (.int q))) ([.int a0, .int a1] : List Value).toArray s 0 0 A) (F0 m 51 ls [.int t0_6]) := by
      clear h hP hD hS hl
      intro t0_6 H locs hP hD hS ls hl h
      rw [eJ51] at h
      obtain ⟨z7, h⟩ := x_nz h
      have h := Option.some.inj h
      subst h
      exact xZret hx hb hr hlocks (xnar_n z7) hP hK hD hS dX7_isPreferred_51
    refine lv_if_eq (tgt := 50) hx hb dX7_isPreferred_43 (by decide) (fun c8 => ?_) (fun c8 => ?_)
    · have h := x_t h c8
      refine lv_iconst (v := 0) hx hb dX7_isPreferred_50 (by decide) ?_
      exact hJ_J51 0 _ _ hP hD hS _ (lv_sub hl [] rfl) h
    · have h := x_f h c8
      refine lv_iconst (v := 1) hx hb dX7_isPreferred_46 (by decide) ?_
      refine lv_goto (tgt := 51) hx hb dX7_isPreferred_47 (by decide) ?_
      exact hJ_J51 1 _ _ hP hD hS _ (lv_sub hl [] rfl) h
  · have h := x_f h c3
    refine lv_iload_n hx hb dX7_isPreferred_15 rfl (lv_at hl 1 rfl) ?_
    refine lv_iload_n hx hb dX7_isPreferred_16 rfl (lv_at hl 0 rfl) ?_
    obtain ⟨J25, eJ25, h⟩ := x_join h
    have hJ_J25 : ∀ (t0_9 : Int32) (H : Heap) (locs : List Loc), va_P D vwCl (([] : va_W)) H → va_D A (([] : va_W)) → va_S A s.heap H locs → ∀ ls : Array Slot, lv_has ls 6 [] → J25 t0_9 = some q → W p l e rm s m ([.int a0, .int a1] : List Value).toArray below meth c H locs 0 0 (MQ below (xQ D cA A (([] : va_W)) (some (.int q))) ([.int a0, .int a1] : List Value).toArray s 0 0 A) (F0 m 25 ls [.int t0_9]) := by
      clear h hP hD hS hl
      intro t0_9 H locs hP hD hS ls hl h
      rw [eJ25] at h
      obtain ⟨z10, h⟩ := x_nz h
      have h := Option.some.inj h
      subst h
      exact xZret hx hb hr hlocks (xnar_n z10) hP hK hD hS dX7_isPreferred_25
    refine lv_icmp_ge (tgt := 24) hx hb dX7_isPreferred_17 (by decide) (fun c11 => ?_) (fun c11 => ?_)
    · have h := x_t h c11
      refine lv_iconst (v := 0) hx hb dX7_isPreferred_24 (by decide) ?_
      exact hJ_J25 0 _ _ hP hD hS _ (lv_sub hl [] rfl) h
    · have h := x_f h c11
      refine lv_iconst (v := 1) hx hb dX7_isPreferred_20 (by decide) ?_
      refine lv_goto (tgt := 25) hx hb dX7_isPreferred_21 (by decide) ?_
      exact hJ_J25 1 _ _ hP hD hS _ (lv_sub hl [] rfl) h
def fX7_chosenSet_L12 (N : Nat) (K54 : Int32 → MatS → BilS → Option (Int32 × MatS × BilS)) : Nat → Int32 → Int32 → Int32 → Int32 → MatS → BilS → Option (Int32 × MatS × BilS)
  | 0, _, _, _, _, _, _ => none
  | n + 1, v2_3, v3_3, v4_3, v5_3, s0_3, s1_3 =>
    if v3_3 ≤ v5_3 then
      K54 v4_3 s0_3 s1_3
    else
      xrd 1024 v5_3 fun k5 =>
      xjoin (fun (v2_6 : Int32) (v3_6 : Int32) (v4_6 : Int32) (v5_6 : Int32) (s0_6 : MatS) (s1_6 : BilS) =>
          xlet (v5_6 + (1)) fun x7 =>
          fX7_chosenSet_L12 N K54 n v2_6 v3_6 v4_6 x7 s0_6 s1_6
        ) fun J48 =>
      if (s0_3.2 k5) = v2_3 then
        xjoin (fun (v2_9 : Int32) (v3_9 : Int32) (v5_9 : Int32) (s0_9 : MatS) (s1_9 : BilS) =>
            J48 v2_9 v3_9 v5_9 v5_9 s0_9 s1_9
          ) fun J44 =>
        if v4_3 = 0 then
          J44 v2_3 v3_3 v5_3 s0_3 s1_3
        else
          xcall (fX7_isPreferred N v5_3 v4_3) fun q11 =>
          if q11 = 0 then
            J48 v2_3 v3_3 v4_3 v5_3 s0_3 s1_3
          else
            J44 v2_3 v3_3 v5_3 s0_3 s1_3
      else
        J48 v2_3 v3_3 v4_3 v5_3 s0_3 s1_3
def fX7_chosenSet (N : Nat) (a2 : Int32) (s0 : MatS) (s1 : BilS) : Option (Int32 × MatS × BilS) :=
  xcall (fX7_sumSets N s0 s1) fun q1 =>
  xjoin (fun (v4_2 : Int32) (s0_2 : MatS) (s1_2 : BilS) =>
      some (v4_2, s0_2, s1_2)
    ) fun K54 =>
  fX7_chosenSet_L12 N K54 N a2 q1.1 0 1 q1.2.1 q1.2.2
set_option maxRecDepth 100000 in
set_option maxHeartbeats 4000000 in
theorem kX7_chosenSet (l : Launch) (D : va_G) (cA : Nat → ClassId) (ad : Nat → Nat) (h0 : Nat → Nat) (h1 : Nat → Nat) (sz N : Nat) (a2 : Int32) (s0 : MatS) (s1 : BilS) (q : Int32 × MatS × BilS) (h : fX7_chosenSet N a2 s0 s1 = some q) : zM l yX7_chosenSet cX7_chosenSet 6 (some .int) ({ frames := 2, cells := 0, slots := 0, locals := 45 }) D cA ad (MatW cA h0 s0 ++ BilW cA h1 s1) sz [.ref (h0 0), .ref (h1 0), .int a2] (some (.int q.1)) (MatW cA h0 q.2.1 ++ BilW cA h1 q.2.2) := by
  generalize erm : ({ frames := 2, cells := 0, slots := 0, locals := 45 } : Room) = rm
  refine zMet (by decide) (Nat.le_of_ble_eq_true rfl) ?_
  intro p e s m below meth c hx hb hr hlocks hml hts hown hin hK hP A eA hD hS hA hsz hN hE ls hl
  have hl : lv_has ls 6 [(0, .ref (h0 0)), (1, .ref (h1 0)), (2, .int a2)] := hl
  clear eA
  rw [fX7_chosenSet] at h
  refine lv_aload_n hx hb dX7_chosenSet_0 rfl (lv_at hl 0 rfl) ?_
  refine lv_aload_n hx hb dX7_chosenSet_1 rfl (lv_at hl 1 rfl) ?_
  obtain ⟨q1, c1, h⟩ := x_call h
  refine xCall (w2 := MatW cA h0 q1.2.1 ++ BilW cA h1 q1.2.2) (zRunV (n := 1) (As := [.ref (h1 0)]) (rest := []) ⟨hx, hb, hml, hown, hts⟩ (kX7_sumSets l D cA ad h0 h1 _ N s0 s1 q1 c1) qco_X7_sumSets qml_X7_37 qin_X7_sumSets qse_X7_sumSets qini_X7 (by decide +kernel) (by rw [← erm]; rfl) hN hE hS hA hK hP hD [0, 1, 2, 3, 4, 5] rfl rfl (q0 := 0) rfl rfl rfl rfl rfl hl.1 rfl (lv_room (Nat.le_of_ble_eq_true rfl)) dX7_chosenSet_2 ⟨Nat.zero_le _, Nat.zero_le _⟩) hP hD hS hA [0, 1, 2, 3, 4, 5] [] [0, 1, 2, 3, 4, 5] rfl (wr := []) rfl rfl rfl rfl rfl (fun H locs hP hD hS => ?_)
  refine lv_istore_n (lv' := [(3, .int q1.1), (0, .ref (h0 0)), (1, .ref (h1 0)), (2, .int a2)]) hx hb dX7_chosenSet_5 rfl hl (by decide) rfl (fun ls hl => ?_)
  refine lv_iconst (v := 0) hx hb dX7_chosenSet_6 (by decide) ?_
  refine lv_istore (lv' := [(4, .int 0), (3, .int q1.1), (0, .ref (h0 0)), (1, .ref (h1 0)), (2, .int a2)]) hx hb dX7_chosenSet_7 hl (by decide) rfl (fun ls hl => ?_)
  refine lv_iconst (v := 1) hx hb dX7_chosenSet_9 (by decide) ?_
  refine lv_istore (lv' := [(5, .int 1), (4, .int 0), (3, .int q1.1), (0, .ref (h0 0)), (1, .ref (h1 0)), (2, .int a2)]) hx hb dX7_chosenSet_10 hl (by decide) rfl (fun ls hl => ?_)
  obtain ⟨K54, eK54, h⟩ := x_join h
  have hJ_K54 : ∀ (v4_2 : Int32) (s0_2 : MatS) (s1_2 : BilS) (H : Heap) (locs : List Loc), va_P D vwCl (MatW cA h0 s0_2 ++ BilW cA h1 s1_2) H → va_D A (MatW cA h0 s0_2 ++ BilW cA h1 s1_2) → va_S A s.heap H locs → ∀ ls : Array Slot, lv_has ls 6 [(4, .int v4_2)] → K54 v4_2 s0_2 s1_2 = some q → W p l e rm s m ([.ref (h0 0), .ref (h1 0), .int a2] : List Value).toArray below meth c H locs 0 0 (MQ below (xQ D cA A (MatW cA h0 q.2.1 ++ BilW cA h1 q.2.2) (some (.int q.1))) ([.ref (h0 0), .ref (h1 0), .int a2] : List Value).toArray s 0 0 A) (F0 m 54 ls []) := by
    clear h hP hD hS hl
    intro v4_2 s0_2 s1_2 H locs hP hD hS ls hl h
    rw [eK54] at h
    refine lv_iload hx hb dX7_chosenSet_54 (lv_at hl 0 rfl) ?_
    have h := Option.some.inj h
    subst h
    exact xIret hx hb hr hlocks hP hK hD hS dX7_chosenSet_56
  have hL12 : ∀ (n : Nat) (v2_3 : Int32) (v3_3 : Int32) (v4_3 : Int32) (v5_3 : Int32) (s0_3 : MatS) (s1_3 : BilS) (H : Heap) (locs : List Loc), va_P D vwCl (MatW cA h0 s0_3 ++ BilW cA h1 s1_3) H → va_D A (MatW cA h0 s0_3 ++ BilW cA h1 s1_3) → va_S A s.heap H locs → ∀ ls : Array Slot, lv_has ls 6 [(0, .ref (h0 0)), (2, .int v2_3), (3, .int v3_3), (4, .int v4_3), (5, .int v5_3)] → fX7_chosenSet_L12 N K54 n v2_3 v3_3 v4_3 v5_3 s0_3 s1_3 = some q → W p l e rm s m ([.ref (h0 0), .ref (h1 0), .int a2] : List Value).toArray below meth c H locs 0 0 (MQ below (xQ D cA A (MatW cA h0 q.2.1 ++ BilW cA h1 q.2.2) (some (.int q.1))) ([.ref (h0 0), .ref (h1 0), .int a2] : List Value).toArray s 0 0 A) (F0 m 12 ls []) := by
    clear h hP hD hS hl
    intro n
    induction n with
    | zero => intro v2_3 v3_3 v4_3 v5_3 s0_3 s1_3 H locs hP hD hS ls hl h; rw [fX7_chosenSet_L12] at h; cases h
    | succ n ih =>
      intro v2_3 v3_3 v4_3 v5_3 s0_3 s1_3 H locs hP hD hS ls hl h
      rw [fX7_chosenSet_L12] at h
      refine lv_iload hx hb dX7_chosenSet_12 (lv_at hl 4 rfl) ?_
      refine lv_iload_n hx hb dX7_chosenSet_14 rfl (lv_at hl 2 rfl) ?_
      refine lv_icmp_ge (tgt := 54) hx hb dX7_chosenSet_15 (by decide) (fun c4 => ?_) (fun c4 => ?_)
      · have h := x_t h c4
        exact hJ_K54 v4_3 s0_3 s1_3 _ _ hP hD hS _ (lv_sub hl [3] rfl) h
      · have h := x_f h c4
        refine lv_aload_n hx hb dX7_chosenSet_18 rfl (lv_at hl 0 rfl) ?_
        refine va_get (D := D) (ci := 7) (v := .ref (h0 2)) (C := RX7) (T := TX7) (N := 2) hx hb hts iX7 hown hK hP 0 rfl rfl 1 (by decide) (hts _ qfl_X7_15) (fun _ h9 => h9) rfl dX7_chosenSet_19 ?_
        refine lv_iload hx hb dX7_chosenSet_22 (lv_at hl 4 rfl) ?_
        obtain ⟨k5, hk5, h⟩ := x_rd h
        refine xIald hx hb hK hP 2 0 rfl rfl hk5 dX7_chosenSet_24 ?_
        refine lv_iload_n hx hb dX7_chosenSet_25 rfl (lv_at hl 1 rfl) ?_
        obtain ⟨J48, eJ48, h⟩ := x_join h
        have hJ_J48 : ∀ (v2_6 : Int32) (v3_6 : Int32) (v4_6 : Int32) (v5_6 : Int32) (s0_6 : MatS) (s1_6 : BilS) (H : Heap) (locs : List Loc), va_P D vwCl (MatW cA h0 s0_6 ++ BilW cA h1 s1_6) H → va_D A (MatW cA h0 s0_6 ++ BilW cA h1 s1_6) → va_S A s.heap H locs → ∀ ls : Array Slot, lv_has ls 6 [(0, .ref (h0 0)), (2, .int v2_6), (3, .int v3_6), (4, .int v4_6), (5, .int v5_6)] → J48 v2_6 v3_6 v4_6 v5_6 s0_6 s1_6 = some q → W p l e rm s m ([.ref (h0 0), .ref (h1 0), .int a2] : List Value).toArray below meth c H locs 0 0 (MQ below (xQ D cA A (MatW cA h0 q.2.1 ++ BilW cA h1 q.2.2) (some (.int q.1))) ([.ref (h0 0), .ref (h1 0), .int a2] : List Value).toArray s 0 0 A) (F0 m 48 ls []) := by
          clear h hP hD hS hl
          intro v2_6 v3_6 v4_6 v5_6 s0_6 s1_6 H locs hP hD hS ls hl h
          rw [eJ48] at h
          obtain ⟨x7, ex7⟩ : ∃ y : Int32, y = v5_6 + (1) := ⟨_, rfl⟩
          have h := x_let h ex7
          refine lv_iinc (v := x7) (lv' := [(5, .int x7), (0, .ref (h0 0)), (2, .int v2_6), (3, .int v3_6), (4, .int v4_6)]) hx hb dX7_chosenSet_48 hl (k := 4) rfl (by rw [ex7]; rfl) (by decide) rfl (fun ls hl => ?_)
          refine lv_goto (tgt := 12) hx hb dX7_chosenSet_51 (by decide) ?_
          exact ih v2_6 v3_6 v4_6 x7 s0_6 s1_6 _ _ hP hD hS _ (lv_sub hl [1, 2, 3, 4, 0] rfl) h
        refine lv_icmp_ne (tgt := 48) hx hb dX7_chosenSet_26 (by decide) (fun c8 => ?_) (fun c8 => ?_)
        · have h := x_f h c8
          exact hJ_J48 v2_3 v3_3 v4_3 v5_3 s0_3 s1_3 _ _ hP hD hS _ (lv_sub hl [0, 1, 2, 3, 4] rfl) h
        · have h := x_t h c8
          refine lv_iload hx hb dX7_chosenSet_29 (lv_at hl 3 rfl) ?_
          obtain ⟨J44, eJ44, h⟩ := x_join h
          have hJ_J44 : ∀ (v2_9 : Int32) (v3_9 : Int32) (v5_9 : Int32) (s0_9 : MatS) (s1_9 : BilS) (H : Heap) (locs : List Loc), va_P D vwCl (MatW cA h0 s0_9 ++ BilW cA h1 s1_9) H → va_D A (MatW cA h0 s0_9 ++ BilW cA h1 s1_9) → va_S A s.heap H locs → ∀ ls : Array Slot, lv_has ls 6 [(0, .ref (h0 0)), (2, .int v2_9), (3, .int v3_9), (5, .int v5_9)] → J44 v2_9 v3_9 v5_9 s0_9 s1_9 = some q → W p l e rm s m ([.ref (h0 0), .ref (h1 0), .int a2] : List Value).toArray below meth c H locs 0 0 (MQ below (xQ D cA A (MatW cA h0 q.2.1 ++ BilW cA h1 q.2.2) (some (.int q.1))) ([.ref (h0 0), .ref (h1 0), .int a2] : List Value).toArray s 0 0 A) (F0 m 44 ls []) := by
            clear h hP hD hS hl
            intro v2_9 v3_9 v5_9 s0_9 s1_9 H locs hP hD hS ls hl h
            rw [eJ44] at h
            refine lv_iload hx hb dX7_chosenSet_44 (lv_at hl 3 rfl) ?_
            refine lv_istore (lv' := [(4, .int v5_9), (0, .ref (h0 0)), (2, .int v2_9), (3, .int v3_9), (5, .int v5_9)]) hx hb dX7_chosenSet_46 hl (by decide) rfl (fun ls hl => ?_)
            exact hJ_J48 v2_9 v3_9 v5_9 v5_9 s0_9 s1_9 _ _ hP hD hS _ (lv_sub hl [1, 2, 3, 0, 4] rfl) h
          refine lv_if_eq (tgt := 44) hx hb dX7_chosenSet_31 (by decide) (fun c10 => ?_) (fun c10 => ?_)
          · have h := x_t h c10
            exact hJ_J44 v2_3 v3_3 v5_3 s0_3 s1_3 _ _ hP hD hS _ (lv_sub hl [0, 1, 2, 4] rfl) h
          · have h := x_f h c10
            refine lv_iload hx hb dX7_chosenSet_34 (lv_at hl 4 rfl) ?_
            refine lv_iload hx hb dX7_chosenSet_36 (lv_at hl 3 rfl) ?_
            obtain ⟨q11, c11, h⟩ := x_call h
            refine xCall (w2 := MatW cA h0 s0_3 ++ BilW cA h1 s1_3) (zRunS (n := 2) (As := [.int v5_3, .int v4_3]) (rest := []) ⟨hx, hb, hml, hown, hts⟩ (kX7_isPreferred l D cA ad  _ N v5_3 v4_3 q11 c11) qco_X7_isPreferred qml_X7_41 qst_X7_isPreferred qini_X7 (by decide +kernel) (by rw [← erm]; rfl) hN hE hS hA hK hP hD [] rfl rfl rfl rfl hl.1 rfl (lv_room (Nat.le_of_ble_eq_true rfl)) dX7_chosenSet_38 ⟨Nat.zero_le _, Nat.zero_le _⟩) hP hD hS hA [] [0, 1, 2, 3, 4, 5] [0, 1, 2, 3, 4, 5] rfl (wr := [(h0 0, .inr (7, [.ref (h0 1), .ref (h0 2)])), (h0 1, .inl (cA 3, 1000, .inl (s0_3.1))), (h0 2, .inl (cA 0, 1024, .inl (s0_3.2))), (h1 0, .inr (3, [.ref (h1 1), .ref (h1 2), .int (s1_3.2.2.1), .int (s1_3.2.2.2)])), (h1 1, .inl (cA 0, 10, .inl (s1_3.1))), (h1 2, .inl (cA 0, 10, .inl (s1_3.2.1)))]) rfl rfl rfl rfl rfl (fun H locs hP hD hS => ?_)
            refine lv_if_eq (tgt := 48) hx hb dX7_chosenSet_41 (by decide) (fun c12 => ?_) (fun c12 => ?_)
            · have h := x_t h c12
              exact hJ_J48 v2_3 v3_3 v4_3 v5_3 s0_3 s1_3 _ _ hP hD hS _ (lv_sub hl [0, 1, 2, 3, 4] rfl) h
            · have h := x_f h c12
              exact hJ_J44 v2_3 v3_3 v5_3 s0_3 s1_3 _ _ hP hD hS _ (lv_sub hl [0, 1, 2, 4] rfl) h
  exact hL12 N a2 q1.1 0 1 q1.2.1 q1.2.2 _ _ hP hD hS _ (lv_sub hl [3, 5, 2, 1, 0] rfl) h
def fX7_waysAgree (N : Nat) (a2 : Int32) (s0 : MatS) (s1 : BilS) : Option (Int32 × MatS × BilS) :=
  xcall (fX7_canReach N a2 s0 s1) fun q1 =>
  xcall (fX7_hasSet N a2 q1.2.1 q1.2.2) fun q2 =>
  xjoin (fun (t0_3 : Int32) (s0_3 : MatS) (s1_3 : BilS) =>
      xnz (xnar .boolean t0_3) <|
      some (t0_3, s0_3, s1_3)
    ) fun J20 =>
  if q1.1 = q2.1 then
    J20 1 q2.2.1 q2.2.2
  else
    J20 0 q2.2.1 q2.2.2
set_option maxRecDepth 100000 in
set_option maxHeartbeats 4000000 in
theorem kX7_waysAgree (l : Launch) (D : va_G) (cA : Nat → ClassId) (ad : Nat → Nat) (h0 : Nat → Nat) (h1 : Nat → Nat) (sz N : Nat) (a2 : Int32) (s0 : MatS) (s1 : BilS) (q : Int32 × MatS × BilS) (h : fX7_waysAgree N a2 s0 s1 = some q) : zM l yX7_waysAgree cX7_waysAgree 3 (some .boolean) ({ frames := 3, cells := 0, slots := 0, locals := 69 }) D cA ad (MatW cA h0 s0 ++ BilW cA h1 s1) sz [.ref (h0 0), .ref (h1 0), .int a2] (some (.int q.1)) (MatW cA h0 q.2.1 ++ BilW cA h1 q.2.2) := by
  generalize erm : ({ frames := 3, cells := 0, slots := 0, locals := 69 } : Room) = rm
  refine zMet (by decide) (Nat.le_of_ble_eq_true rfl) ?_
  intro p e s m below meth c hx hb hr hlocks hml hts hown hin hK hP A eA hD hS hA hsz hN hE ls hl
  have hl : lv_has ls 3 [(0, .ref (h0 0)), (1, .ref (h1 0)), (2, .int a2)] := hl
  clear eA
  rw [fX7_waysAgree] at h
  refine lv_aload_n hx hb dX7_waysAgree_0 rfl (lv_at hl 0 rfl) ?_
  refine lv_aload_n hx hb dX7_waysAgree_1 rfl (lv_at hl 1 rfl) ?_
  refine lv_iload_n hx hb dX7_waysAgree_2 rfl (lv_at hl 2 rfl) ?_
  obtain ⟨q1, c1, h⟩ := x_call h
  refine xCall (w2 := MatW cA h0 q1.2.1 ++ BilW cA h1 q1.2.2) (zRunV (n := 2) (As := [.ref (h1 0), .int a2]) (rest := []) ⟨hx, hb, hml, hown, hts⟩ (kX7_canReach l D cA ad h0 h1 _ N a2 s0 s1 q1 c1) qco_X7_canReach qml_X7_50 qin_X7_canReach qse_X7_canReach qini_X7 (by decide +kernel) (by rw [← erm]; rfl) hN hE hS hA hK hP hD [0, 1, 2, 3, 4, 5] rfl rfl (q0 := 0) rfl rfl rfl rfl rfl hl.1 rfl (lv_room (Nat.le_of_ble_eq_true rfl)) dX7_waysAgree_3 ⟨Nat.zero_le _, Nat.zero_le _⟩) hP hD hS hA [0, 1, 2, 3, 4, 5] [] [0, 1, 2, 3, 4, 5] rfl (wr := []) rfl rfl rfl rfl rfl (fun H locs hP hD hS => ?_)
  refine lv_aload_n hx hb dX7_waysAgree_6 rfl (lv_at hl 0 rfl) ?_
  refine lv_aload_n hx hb dX7_waysAgree_7 rfl (lv_at hl 1 rfl) ?_
  refine lv_iload_n hx hb dX7_waysAgree_8 rfl (lv_at hl 2 rfl) ?_
  obtain ⟨q2, c2, h⟩ := x_call h
  refine xCall (w2 := MatW cA h0 q2.2.1 ++ BilW cA h1 q2.2.2) (zRunV (n := 2) (As := [.ref (h1 0), .int a2]) (rest := [.int q1.1]) ⟨hx, hb, hml, hown, hts⟩ (kX7_hasSet l D cA ad h0 h1 _ N a2 q1.2.1 q1.2.2 q2 c2) qco_X7_hasSet qml_X7_54 qin_X7_hasSet qse_X7_hasSet qini_X7 (by decide +kernel) (by rw [← erm]; rfl) hN hE hS hA hK hP hD [0, 1, 2, 3, 4, 5] rfl rfl (q0 := 0) rfl rfl rfl rfl rfl hl.1 rfl (lv_room (Nat.le_of_ble_eq_true rfl)) dX7_waysAgree_9 ⟨Nat.zero_le _, Nat.zero_le _⟩) hP hD hS hA [0, 1, 2, 3, 4, 5] [] [0, 1, 2, 3, 4, 5] rfl (wr := []) rfl rfl rfl rfl rfl (fun H locs hP hD hS => ?_)
  obtain ⟨J20, eJ20, h⟩ := x_join h
  have hJ_J20 : ∀ (t0_3 : Int32) (s0_3 : MatS) (s1_3 : BilS) (H : Heap) (locs : List Loc), va_P D vwCl (MatW cA h0 s0_3 ++ BilW cA h1 s1_3) H → va_D A (MatW cA h0 s0_3 ++ BilW cA h1 s1_3) → va_S A s.heap H locs → ∀ ls : Array Slot, lv_has ls 3 [] → J20 t0_3 s0_3 s1_3 = some q → W p l e rm s m ([.ref (h0 0), .ref (h1 0), .int a2] : List Value).toArray below meth c H locs 0 0 (MQ below (xQ D cA A (MatW cA h0 q.2.1 ++ BilW cA h1 q.2.2) (some (.int q.1))) ([.ref (h0 0), .ref (h1 0), .int a2] : List Value).toArray s 0 0 A) (F0 m 20 ls [.int t0_3]) := by
    clear h hP hD hS hl
    intro t0_3 s0_3 s1_3 H locs hP hD hS ls hl h
    rw [eJ20] at h
    obtain ⟨z4, h⟩ := x_nz h
    have h := Option.some.inj h
    subst h
    exact xZret hx hb hr hlocks (xnar_n z4) hP hK hD hS dX7_waysAgree_20
  refine lv_icmp_ne (tgt := 19) hx hb dX7_waysAgree_12 (by decide) (fun c5 => ?_) (fun c5 => ?_)
  · have h := x_f h c5
    refine lv_iconst (v := 0) hx hb dX7_waysAgree_19 (by decide) ?_
    exact hJ_J20 0 q2.2.1 q2.2.2 _ _ hP hD hS _ (lv_sub hl [] rfl) h
  · have h := x_t h c5
    refine lv_iconst (v := 1) hx hb dX7_waysAgree_15 (by decide) ?_
    refine lv_goto (tgt := 20) hx hb dX7_waysAgree_16 (by decide) ?_
    exact hJ_J20 1 q2.2.1 q2.2.2 _ _ hP hD hS _ (lv_sub hl [] rfl) h
def fX3_copyFrom (N : Nat)  (s0 : BooS) (s1 : BooS) : Option (BooS × BooS) :=
  xcall (fX1_copyFrom N s0.1 s1.1) fun q1 =>
  xcall (fX6_copyFrom N s0.2.1 s1.2.1) fun q2 =>
  xcall (fX8_copyFrom N s0.2.2.1 s1.2.2.1) fun q3 =>
  xcall (fX11_copyFrom N s0.2.2.2.1 s1.2.2.2.1) fun q4 =>
  xcall (fX2_copyFrom N s0.2.2.2.2.1 s1.2.2.2.2.1) fun q5 =>
  some ((Boos4 (Boos3 (Boos2 (Boos1 (Boos0 s1 q1.1) q2.1) q3.1) q4.1) q5.1), (Boos4 (Boos3 (Boos2 (Boos1 (Boos0 s1 q1.2) q2.2) q3.2) q4.2) q5.2))
set_option maxRecDepth 100000 in
set_option maxHeartbeats 4000000 in
theorem kX3_copyFrom (l : Launch) (D : va_G) (cA : Nat → ClassId) (ad : Nat → Nat) (h0 : Nat → Nat) (h1 : Nat → Nat) (sz N : Nat)  (s0 : BooS) (s1 : BooS) (q : BooS × BooS) (h : fX3_copyFrom N s0 s1 = some q) : zM l yX3_copyFrom cX3_copyFrom 2 none ({ frames := 2, cells := 0, slots := 0, locals := 61 }) D cA ad (BooW cA h0 s0 ++ BooW cA h1 s1) sz [.ref (h0 0), .ref (h1 0)] (none) (BooW cA h0 q.1 ++ BooW cA h1 q.2) := by
  generalize erm : ({ frames := 2, cells := 0, slots := 0, locals := 61 } : Room) = rm
  refine zMet (by decide) (Nat.le_of_ble_eq_true rfl) ?_
  intro p e s m below meth c hx hb hr hlocks hml hts hown hin hK hP A eA hD hS hA hsz hN hE ls hl
  have hl : lv_has ls 2 [(0, .ref (h0 0)), (1, .ref (h1 0))] := hl
  clear eA
  rw [fX3_copyFrom] at h
  refine lv_aload_n hx hb dX3_copyFrom_0 rfl (lv_at hl 0 rfl) ?_
  refine va_get (D := D) (ci := 4) (v := .ref (h0 1)) (C := RX3) (T := TX3) (N := 7) hx hb hts iX3 hown hK hP 0 rfl rfl 0 (by decide) (hts _ qfl_X3_12) (fun _ h9 => h9) rfl dX3_copyFrom_1 ?_
  refine lv_aload_n hx hb dX3_copyFrom_4 rfl (lv_at hl 1 rfl) ?_
  refine va_get (D := D) (ci := 4) (v := .ref (h1 1)) (C := RX3) (T := TX3) (N := 7) hx hb hts iX3 hown hK hP 25 rfl rfl 0 (by decide) (hts _ qfl_X3_12) (fun _ h9 => h9) rfl dX3_copyFrom_5 ?_
  obtain ⟨q1, c1, h⟩ := x_call h
  refine xCall (w2 := BooW cA h0 ((Boos0 s0 q1.1)) ++ BooW cA h1 ((Boos0 s1 q1.2))) (zRunV (n := 1) (As := [.ref (h1 1)]) (rest := []) ⟨hx, hb, hml, hown, hts⟩ (kX1_copyFrom l D cA ad (fun k => h0 (k + 1)) (fun k => h1 (k + 1)) _ N s0.1 s1.1 q1 c1) qco_X1_copyFrom qml_X3_46 qin_X1_copyFrom qse_X1_copyFrom qini_X1 (by decide +kernel) (by rw [← erm]; rfl) hN hE hS hA hK hP hD [1, 2, 3, 4, 5, 26, 27, 28, 29, 30] rfl rfl (q0 := 0) rfl rfl rfl rfl rfl hl.1 rfl (lv_room (Nat.le_of_ble_eq_true rfl)) dX3_copyFrom_8 ⟨Nat.zero_le _, Nat.zero_le _⟩) hP hD hS hA [1, 2, 3, 4, 5, 26, 27, 28, 29, 30] [0, 6, 7, 8, 9, 10, 11, 12, 13, 14, 15, 16, 17, 18, 19, 20, 21, 22, 23, 24, 25, 31, 32, 33, 34, 35, 36, 37, 38, 39, 40, 41, 42, 43, 44, 45, 46, 47, 48, 49] [0, 40, 41, 42, 43, 44, 1, 2, 3, 4, 5, 6, 7, 8, 9, 10, 11, 12, 13, 14, 15, 16, 17, 18, 19, 20, 45, 46, 47, 48, 49, 21, 22, 23, 24, 25, 26, 27, 28, 29, 30, 31, 32, 33, 34, 35, 36, 37, 38, 39] rfl (wr := [(h0 0, .inr (4, [.ref (h0 1), .ref (h0 6), .ref (h0 12), .ref (h0 19), .ref (h0 22), .int (s0.2.2.2.2.2.1), .int (s0.2.2.2.2.2.2)])), (h0 6, .inr (6, [.ref (h0 7), .ref (h0 8), .ref (h0 9), .ref (h0 10), .ref (h0 11), .int (s0.2.1.2.2.2.2.2)])), (h0 7, .inl (cA 0, 20, .inl (s0.2.1.1))), (h0 8, .inl (cA 0, 20, .inl (s0.2.1.2.1))), (h0 9, .inl (cA 2, 20, .inr (.inl (s0.2.1.2.2.1)))), (h0 10, .inl (cA 0, 20, .inl (s0.2.1.2.2.2.1))), (h0 11, .inl (cA 0, 20, .inl (s0.2.1.2.2.2.2.1))), (h0 12, .inr (8, [.ref (h0 13), .ref (h0 14), .ref (h0 15), .ref (h0 16), .ref (h0 17), .ref (h0 18), .int (s0.2.2.1.2.2.2.2.2.2)])), (h0 13, .inl (cA 0, 6, .inl (s0.2.2.1.1))), (h0 14, .inl (cA 0, 6, .inl (s0.2.2.1.2.1))), (h0 15, .inl (cA 0, 6, .inl (s0.2.2.1.2.2.1))), (h0 16, .inl (cA 0, 6, .inl (s0.2.2.1.2.2.2.1))), (h0 17, .inl (cA 0, 6, .inl (s0.2.2.1.2.2.2.2.1))), (h0 18, .inl (cA 0, 6, .inl (s0.2.2.1.2.2.2.2.2.1))), (h0 19, .inr (10, [.ref (h0 20), .ref (h0 21), .int (s0.2.2.2.1.2.2)])), (h0 20, .inl (cA 0, 8, .inl (s0.2.2.2.1.1))), (h0 21, .inl (cA 0, 8, .inl (s0.2.2.2.1.2.1))), (h0 22, .inr (3, [.ref (h0 23), .ref (h0 24), .int (s0.2.2.2.2.1.2.2.1), .int (s0.2.2.2.2.1.2.2.2)])), (h0 23, .inl (cA 0, 10, .inl (s0.2.2.2.2.1.1))), (h0 24, .inl (cA 0, 10, .inl (s0.2.2.2.2.1.2.1))), (h1 0, .inr (4, [.ref (h1 1), .ref (h1 6), .ref (h1 12), .ref (h1 19), .ref (h1 22), .int (s1.2.2.2.2.2.1), .int (s1.2.2.2.2.2.2)])), (h1 6, .inr (6, [.ref (h1 7), .ref (h1 8), .ref (h1 9), .ref (h1 10), .ref (h1 11), .int (s1.2.1.2.2.2.2.2)])), (h1 7, .inl (cA 0, 20, .inl (s1.2.1.1))), (h1 8, .inl (cA 0, 20, .inl (s1.2.1.2.1))), (h1 9, .inl (cA 2, 20, .inr (.inl (s1.2.1.2.2.1)))), (h1 10, .inl (cA 0, 20, .inl (s1.2.1.2.2.2.1))), (h1 11, .inl (cA 0, 20, .inl (s1.2.1.2.2.2.2.1))), (h1 12, .inr (8, [.ref (h1 13), .ref (h1 14), .ref (h1 15), .ref (h1 16), .ref (h1 17), .ref (h1 18), .int (s1.2.2.1.2.2.2.2.2.2)])), (h1 13, .inl (cA 0, 6, .inl (s1.2.2.1.1))), (h1 14, .inl (cA 0, 6, .inl (s1.2.2.1.2.1))), (h1 15, .inl (cA 0, 6, .inl (s1.2.2.1.2.2.1))), (h1 16, .inl (cA 0, 6, .inl (s1.2.2.1.2.2.2.1))), (h1 17, .inl (cA 0, 6, .inl (s1.2.2.1.2.2.2.2.1))), (h1 18, .inl (cA 0, 6, .inl (s1.2.2.1.2.2.2.2.2.1))), (h1 19, .inr (10, [.ref (h1 20), .ref (h1 21), .int (s1.2.2.2.1.2.2)])), (h1 20, .inl (cA 0, 8, .inl (s1.2.2.2.1.1))), (h1 21, .inl (cA 0, 8, .inl (s1.2.2.2.1.2.1))), (h1 22, .inr (3, [.ref (h1 23), .ref (h1 24), .int (s1.2.2.2.2.1.2.2.1), .int (s1.2.2.2.2.1.2.2.2)])), (h1 23, .inl (cA 0, 10, .inl (s1.2.2.2.2.1.1))), (h1 24, .inl (cA 0, 10, .inl (s1.2.2.2.2.1.2.1)))]) rfl rfl rfl rfl rfl (fun H locs hP hD hS => ?_)
  refine lv_aload_n hx hb dX3_copyFrom_11 rfl (lv_at hl 0 rfl) ?_
  refine va_get (D := D) (ci := 4) (v := .ref (h0 6)) (C := RX3) (T := TX3) (N := 7) hx hb hts iX3 hown hK hP 0 rfl rfl 1 (by decide) (hts _ qfl_X3_21) (fun _ h9 => h9) rfl dX3_copyFrom_12 ?_
  refine lv_aload_n hx hb dX3_copyFrom_15 rfl (lv_at hl 1 rfl) ?_
  refine va_get (D := D) (ci := 4) (v := .ref (h1 6)) (C := RX3) (T := TX3) (N := 7) hx hb hts iX3 hown hK hP 25 rfl rfl 1 (by decide) (hts _ qfl_X3_21) (fun _ h9 => h9) rfl dX3_copyFrom_16 ?_
  obtain ⟨q2, c2, h⟩ := x_call h
  refine xCall (w2 := BooW cA h0 ((Boos1 (Boos0 s0 q1.1) q2.1)) ++ BooW cA h1 ((Boos1 (Boos0 s1 q1.2) q2.2))) (zRunV (n := 1) (As := [.ref (h1 6)]) (rest := []) ⟨hx, hb, hml, hown, hts⟩ (kX6_copyFrom l D cA ad (fun k => h0 (k + 6)) (fun k => h1 (k + 6)) _ N s0.2.1 s1.2.1 q2 c2) qco_X6_copyFrom qml_X3_50 qin_X6_copyFrom qse_X6_copyFrom qini_X6 (by decide +kernel) (by rw [← erm]; rfl) hN hE hS hA hK hP hD [6, 7, 8, 9, 10, 11, 31, 32, 33, 34, 35, 36] rfl rfl (q0 := 0) rfl rfl rfl rfl rfl hl.1 rfl (lv_room (Nat.le_of_ble_eq_true rfl)) dX3_copyFrom_19 ⟨Nat.zero_le _, Nat.zero_le _⟩) hP hD hS hA [6, 7, 8, 9, 10, 11, 31, 32, 33, 34, 35, 36] [0, 1, 2, 3, 4, 5, 12, 13, 14, 15, 16, 17, 18, 19, 20, 21, 22, 23, 24, 25, 26, 27, 28, 29, 30, 37, 38, 39, 40, 41, 42, 43, 44, 45, 46, 47, 48, 49] [0, 1, 2, 3, 4, 5, 38, 39, 40, 41, 42, 43, 6, 7, 8, 9, 10, 11, 12, 13, 14, 15, 16, 17, 18, 19, 20, 21, 22, 23, 24, 44, 45, 46, 47, 48, 49, 25, 26, 27, 28, 29, 30, 31, 32, 33, 34, 35, 36, 37] rfl (wr := [(h0 0, .inr (4, [.ref (h0 1), .ref (h0 6), .ref (h0 12), .ref (h0 19), .ref (h0 22), .int (s0.2.2.2.2.2.1), .int (s0.2.2.2.2.2.2)])), (h0 1, .inr (2, [.ref (h0 2), .ref (h0 3), .ref (h0 4), .ref (h0 5), .int (q1.1.2.2.2.2)])), (h0 2, .inl (cA 1, 12, .inl (q1.1.1))), (h0 3, .inl (cA 0, 12, .inl (q1.1.2.1))), (h0 4, .inl (cA 2, 12, .inr (.inl (q1.1.2.2.1)))), (h0 5, .inl (cA 2, 12, .inr (.inl (q1.1.2.2.2.1)))), (h0 12, .inr (8, [.ref (h0 13), .ref (h0 14), .ref (h0 15), .ref (h0 16), .ref (h0 17), .ref (h0 18), .int (s0.2.2.1.2.2.2.2.2.2)])), (h0 13, .inl (cA 0, 6, .inl (s0.2.2.1.1))), (h0 14, .inl (cA 0, 6, .inl (s0.2.2.1.2.1))), (h0 15, .inl (cA 0, 6, .inl (s0.2.2.1.2.2.1))), (h0 16, .inl (cA 0, 6, .inl (s0.2.2.1.2.2.2.1))), (h0 17, .inl (cA 0, 6, .inl (s0.2.2.1.2.2.2.2.1))), (h0 18, .inl (cA 0, 6, .inl (s0.2.2.1.2.2.2.2.2.1))), (h0 19, .inr (10, [.ref (h0 20), .ref (h0 21), .int (s0.2.2.2.1.2.2)])), (h0 20, .inl (cA 0, 8, .inl (s0.2.2.2.1.1))), (h0 21, .inl (cA 0, 8, .inl (s0.2.2.2.1.2.1))), (h0 22, .inr (3, [.ref (h0 23), .ref (h0 24), .int (s0.2.2.2.2.1.2.2.1), .int (s0.2.2.2.2.1.2.2.2)])), (h0 23, .inl (cA 0, 10, .inl (s0.2.2.2.2.1.1))), (h0 24, .inl (cA 0, 10, .inl (s0.2.2.2.2.1.2.1))), (h1 0, .inr (4, [.ref (h1 1), .ref (h1 6), .ref (h1 12), .ref (h1 19), .ref (h1 22), .int (s1.2.2.2.2.2.1), .int (s1.2.2.2.2.2.2)])), (h1 1, .inr (2, [.ref (h1 2), .ref (h1 3), .ref (h1 4), .ref (h1 5), .int (q1.2.2.2.2.2)])), (h1 2, .inl (cA 1, 12, .inl (q1.2.1))), (h1 3, .inl (cA 0, 12, .inl (q1.2.2.1))), (h1 4, .inl (cA 2, 12, .inr (.inl (q1.2.2.2.1)))), (h1 5, .inl (cA 2, 12, .inr (.inl (q1.2.2.2.2.1)))), (h1 12, .inr (8, [.ref (h1 13), .ref (h1 14), .ref (h1 15), .ref (h1 16), .ref (h1 17), .ref (h1 18), .int (s1.2.2.1.2.2.2.2.2.2)])), (h1 13, .inl (cA 0, 6, .inl (s1.2.2.1.1))), (h1 14, .inl (cA 0, 6, .inl (s1.2.2.1.2.1))), (h1 15, .inl (cA 0, 6, .inl (s1.2.2.1.2.2.1))), (h1 16, .inl (cA 0, 6, .inl (s1.2.2.1.2.2.2.1))), (h1 17, .inl (cA 0, 6, .inl (s1.2.2.1.2.2.2.2.1))), (h1 18, .inl (cA 0, 6, .inl (s1.2.2.1.2.2.2.2.2.1))), (h1 19, .inr (10, [.ref (h1 20), .ref (h1 21), .int (s1.2.2.2.1.2.2)])), (h1 20, .inl (cA 0, 8, .inl (s1.2.2.2.1.1))), (h1 21, .inl (cA 0, 8, .inl (s1.2.2.2.1.2.1))), (h1 22, .inr (3, [.ref (h1 23), .ref (h1 24), .int (s1.2.2.2.2.1.2.2.1), .int (s1.2.2.2.2.1.2.2.2)])), (h1 23, .inl (cA 0, 10, .inl (s1.2.2.2.2.1.1))), (h1 24, .inl (cA 0, 10, .inl (s1.2.2.2.2.1.2.1)))]) rfl rfl rfl rfl rfl (fun H locs hP hD hS => ?_)
  refine lv_aload_n hx hb dX3_copyFrom_22 rfl (lv_at hl 0 rfl) ?_
  refine va_get (D := D) (ci := 4) (v := .ref (h0 12)) (C := RX3) (T := TX3) (N := 7) hx hb hts iX3 hown hK hP 0 rfl rfl 2 (by decide) (hts _ qfl_X3_28) (fun _ h9 => h9) rfl dX3_copyFrom_23 ?_
  refine lv_aload_n hx hb dX3_copyFrom_26 rfl (lv_at hl 1 rfl) ?_
  refine va_get (D := D) (ci := 4) (v := .ref (h1 12)) (C := RX3) (T := TX3) (N := 7) hx hb hts iX3 hown hK hP 25 rfl rfl 2 (by decide) (hts _ qfl_X3_28) (fun _ h9 => h9) rfl dX3_copyFrom_27 ?_
  obtain ⟨q3, c3, h⟩ := x_call h
  refine xCall (w2 := BooW cA h0 ((Boos2 (Boos1 (Boos0 s0 q1.1) q2.1) q3.1)) ++ BooW cA h1 ((Boos2 (Boos1 (Boos0 s1 q1.2) q2.2) q3.2))) (zRunV (n := 1) (As := [.ref (h1 12)]) (rest := []) ⟨hx, hb, hml, hown, hts⟩ (kX8_copyFrom l D cA ad (fun k => h0 (k + 12)) (fun k => h1 (k + 12)) _ N s0.2.2.1 s1.2.2.1 q3 c3) qco_X8_copyFrom qml_X3_53 qin_X8_copyFrom qse_X8_copyFrom qini_X8 (by decide +kernel) (by rw [← erm]; rfl) hN hE hS hA hK hP hD [12, 13, 14, 15, 16, 17, 18, 37, 38, 39, 40, 41, 42, 43] rfl rfl (q0 := 0) rfl rfl rfl rfl rfl hl.1 rfl (lv_room (Nat.le_of_ble_eq_true rfl)) dX3_copyFrom_30 ⟨Nat.zero_le _, Nat.zero_le _⟩) hP hD hS hA [12, 13, 14, 15, 16, 17, 18, 37, 38, 39, 40, 41, 42, 43] [0, 1, 2, 3, 4, 5, 6, 7, 8, 9, 10, 11, 19, 20, 21, 22, 23, 24, 25, 26, 27, 28, 29, 30, 31, 32, 33, 34, 35, 36, 44, 45, 46, 47, 48, 49] [0, 1, 2, 3, 4, 5, 6, 7, 8, 9, 10, 11, 36, 37, 38, 39, 40, 41, 42, 12, 13, 14, 15, 16, 17, 18, 19, 20, 21, 22, 23, 24, 25, 26, 27, 28, 29, 43, 44, 45, 46, 47, 48, 49, 30, 31, 32, 33, 34, 35] rfl (wr := [(h0 0, .inr (4, [.ref (h0 1), .ref (h0 6), .ref (h0 12), .ref (h0 19), .ref (h0 22), .int (s0.2.2.2.2.2.1), .int (s0.2.2.2.2.2.2)])), (h0 1, .inr (2, [.ref (h0 2), .ref (h0 3), .ref (h0 4), .ref (h0 5), .int (q1.1.2.2.2.2)])), (h0 2, .inl (cA 1, 12, .inl (q1.1.1))), (h0 3, .inl (cA 0, 12, .inl (q1.1.2.1))), (h0 4, .inl (cA 2, 12, .inr (.inl (q1.1.2.2.1)))), (h0 5, .inl (cA 2, 12, .inr (.inl (q1.1.2.2.2.1)))), (h0 6, .inr (6, [.ref (h0 7), .ref (h0 8), .ref (h0 9), .ref (h0 10), .ref (h0 11), .int (q2.1.2.2.2.2.2)])), (h0 7, .inl (cA 0, 20, .inl (q2.1.1))), (h0 8, .inl (cA 0, 20, .inl (q2.1.2.1))), (h0 9, .inl (cA 2, 20, .inr (.inl (q2.1.2.2.1)))), (h0 10, .inl (cA 0, 20, .inl (q2.1.2.2.2.1))), (h0 11, .inl (cA 0, 20, .inl (q2.1.2.2.2.2.1))), (h0 19, .inr (10, [.ref (h0 20), .ref (h0 21), .int (s0.2.2.2.1.2.2)])), (h0 20, .inl (cA 0, 8, .inl (s0.2.2.2.1.1))), (h0 21, .inl (cA 0, 8, .inl (s0.2.2.2.1.2.1))), (h0 22, .inr (3, [.ref (h0 23), .ref (h0 24), .int (s0.2.2.2.2.1.2.2.1), .int (s0.2.2.2.2.1.2.2.2)])), (h0 23, .inl (cA 0, 10, .inl (s0.2.2.2.2.1.1))), (h0 24, .inl (cA 0, 10, .inl (s0.2.2.2.2.1.2.1))), (h1 0, .inr (4, [.ref (h1 1), .ref (h1 6), .ref (h1 12), .ref (h1 19), .ref (h1 22), .int (s1.2.2.2.2.2.1), .int (s1.2.2.2.2.2.2)])), (h1 1, .inr (2, [.ref (h1 2), .ref (h1 3), .ref (h1 4), .ref (h1 5), .int (q1.2.2.2.2.2)])), (h1 2, .inl (cA 1, 12, .inl (q1.2.1))), (h1 3, .inl (cA 0, 12, .inl (q1.2.2.1))), (h1 4, .inl (cA 2, 12, .inr (.inl (q1.2.2.2.1)))), (h1 5, .inl (cA 2, 12, .inr (.inl (q1.2.2.2.2.1)))), (h1 6, .inr (6, [.ref (h1 7), .ref (h1 8), .ref (h1 9), .ref (h1 10), .ref (h1 11), .int (q2.2.2.2.2.2.2)])), (h1 7, .inl (cA 0, 20, .inl (q2.2.1))), (h1 8, .inl (cA 0, 20, .inl (q2.2.2.1))), (h1 9, .inl (cA 2, 20, .inr (.inl (q2.2.2.2.1)))), (h1 10, .inl (cA 0, 20, .inl (q2.2.2.2.2.1))), (h1 11, .inl (cA 0, 20, .inl (q2.2.2.2.2.2.1))), (h1 19, .inr (10, [.ref (h1 20), .ref (h1 21), .int (s1.2.2.2.1.2.2)])), (h1 20, .inl (cA 0, 8, .inl (s1.2.2.2.1.1))), (h1 21, .inl (cA 0, 8, .inl (s1.2.2.2.1.2.1))), (h1 22, .inr (3, [.ref (h1 23), .ref (h1 24), .int (s1.2.2.2.2.1.2.2.1), .int (s1.2.2.2.2.1.2.2.2)])), (h1 23, .inl (cA 0, 10, .inl (s1.2.2.2.2.1.1))), (h1 24, .inl (cA 0, 10, .inl (s1.2.2.2.2.1.2.1)))]) rfl rfl rfl rfl rfl (fun H locs hP hD hS => ?_)
  refine lv_aload_n hx hb dX3_copyFrom_33 rfl (lv_at hl 0 rfl) ?_
  refine va_get (D := D) (ci := 4) (v := .ref (h0 19)) (C := RX3) (T := TX3) (N := 7) hx hb hts iX3 hown hK hP 0 rfl rfl 3 (by decide) (hts _ qfl_X3_35) (fun _ h9 => h9) rfl dX3_copyFrom_34 ?_
  refine lv_aload_n hx hb dX3_copyFrom_37 rfl (lv_at hl 1 rfl) ?_
  refine va_get (D := D) (ci := 4) (v := .ref (h1 19)) (C := RX3) (T := TX3) (N := 7) hx hb hts iX3 hown hK hP 25 rfl rfl 3 (by decide) (hts _ qfl_X3_35) (fun _ h9 => h9) rfl dX3_copyFrom_38 ?_
  obtain ⟨q4, c4, h⟩ := x_call h
  refine xCall (w2 := BooW cA h0 ((Boos3 (Boos2 (Boos1 (Boos0 s0 q1.1) q2.1) q3.1) q4.1)) ++ BooW cA h1 ((Boos3 (Boos2 (Boos1 (Boos0 s1 q1.2) q2.2) q3.2) q4.2))) (zRunV (n := 1) (As := [.ref (h1 19)]) (rest := []) ⟨hx, hb, hml, hown, hts⟩ (kX11_copyFrom l D cA ad (fun k => h0 (k + 19)) (fun k => h1 (k + 19)) _ N s0.2.2.2.1 s1.2.2.2.1 q4 c4) qco_X11_copyFrom qml_X3_56 qin_X11_copyFrom qse_X11_copyFrom qini_X11 (by decide +kernel) (by rw [← erm]; rfl) hN hE hS hA hK hP hD [19, 20, 21, 44, 45, 46] rfl rfl (q0 := 0) rfl rfl rfl rfl rfl hl.1 rfl (lv_room (Nat.le_of_ble_eq_true rfl)) dX3_copyFrom_41 ⟨Nat.zero_le _, Nat.zero_le _⟩) hP hD hS hA [19, 20, 21, 44, 45, 46] [0, 1, 2, 3, 4, 5, 6, 7, 8, 9, 10, 11, 12, 13, 14, 15, 16, 17, 18, 22, 23, 24, 25, 26, 27, 28, 29, 30, 31, 32, 33, 34, 35, 36, 37, 38, 39, 40, 41, 42, 43, 47, 48, 49] [0, 1, 2, 3, 4, 5, 6, 7, 8, 9, 10, 11, 12, 13, 14, 15, 16, 17, 18, 44, 45, 46, 19, 20, 21, 22, 23, 24, 25, 26, 27, 28, 29, 30, 31, 32, 33, 34, 35, 36, 37, 38, 39, 40, 47, 48, 49, 41, 42, 43] rfl (wr := [(h0 0, .inr (4, [.ref (h0 1), .ref (h0 6), .ref (h0 12), .ref (h0 19), .ref (h0 22), .int (s0.2.2.2.2.2.1), .int (s0.2.2.2.2.2.2)])), (h0 1, .inr (2, [.ref (h0 2), .ref (h0 3), .ref (h0 4), .ref (h0 5), .int (q1.1.2.2.2.2)])), (h0 2, .inl (cA 1, 12, .inl (q1.1.1))), (h0 3, .inl (cA 0, 12, .inl (q1.1.2.1))), (h0 4, .inl (cA 2, 12, .inr (.inl (q1.1.2.2.1)))), (h0 5, .inl (cA 2, 12, .inr (.inl (q1.1.2.2.2.1)))), (h0 6, .inr (6, [.ref (h0 7), .ref (h0 8), .ref (h0 9), .ref (h0 10), .ref (h0 11), .int (q2.1.2.2.2.2.2)])), (h0 7, .inl (cA 0, 20, .inl (q2.1.1))), (h0 8, .inl (cA 0, 20, .inl (q2.1.2.1))), (h0 9, .inl (cA 2, 20, .inr (.inl (q2.1.2.2.1)))), (h0 10, .inl (cA 0, 20, .inl (q2.1.2.2.2.1))), (h0 11, .inl (cA 0, 20, .inl (q2.1.2.2.2.2.1))), (h0 12, .inr (8, [.ref (h0 13), .ref (h0 14), .ref (h0 15), .ref (h0 16), .ref (h0 17), .ref (h0 18), .int (q3.1.2.2.2.2.2.2)])), (h0 13, .inl (cA 0, 6, .inl (q3.1.1))), (h0 14, .inl (cA 0, 6, .inl (q3.1.2.1))), (h0 15, .inl (cA 0, 6, .inl (q3.1.2.2.1))), (h0 16, .inl (cA 0, 6, .inl (q3.1.2.2.2.1))), (h0 17, .inl (cA 0, 6, .inl (q3.1.2.2.2.2.1))), (h0 18, .inl (cA 0, 6, .inl (q3.1.2.2.2.2.2.1))), (h0 22, .inr (3, [.ref (h0 23), .ref (h0 24), .int (s0.2.2.2.2.1.2.2.1), .int (s0.2.2.2.2.1.2.2.2)])), (h0 23, .inl (cA 0, 10, .inl (s0.2.2.2.2.1.1))), (h0 24, .inl (cA 0, 10, .inl (s0.2.2.2.2.1.2.1))), (h1 0, .inr (4, [.ref (h1 1), .ref (h1 6), .ref (h1 12), .ref (h1 19), .ref (h1 22), .int (s1.2.2.2.2.2.1), .int (s1.2.2.2.2.2.2)])), (h1 1, .inr (2, [.ref (h1 2), .ref (h1 3), .ref (h1 4), .ref (h1 5), .int (q1.2.2.2.2.2)])), (h1 2, .inl (cA 1, 12, .inl (q1.2.1))), (h1 3, .inl (cA 0, 12, .inl (q1.2.2.1))), (h1 4, .inl (cA 2, 12, .inr (.inl (q1.2.2.2.1)))), (h1 5, .inl (cA 2, 12, .inr (.inl (q1.2.2.2.2.1)))), (h1 6, .inr (6, [.ref (h1 7), .ref (h1 8), .ref (h1 9), .ref (h1 10), .ref (h1 11), .int (q2.2.2.2.2.2.2)])), (h1 7, .inl (cA 0, 20, .inl (q2.2.1))), (h1 8, .inl (cA 0, 20, .inl (q2.2.2.1))), (h1 9, .inl (cA 2, 20, .inr (.inl (q2.2.2.2.1)))), (h1 10, .inl (cA 0, 20, .inl (q2.2.2.2.2.1))), (h1 11, .inl (cA 0, 20, .inl (q2.2.2.2.2.2.1))), (h1 12, .inr (8, [.ref (h1 13), .ref (h1 14), .ref (h1 15), .ref (h1 16), .ref (h1 17), .ref (h1 18), .int (q3.2.2.2.2.2.2.2)])), (h1 13, .inl (cA 0, 6, .inl (q3.2.1))), (h1 14, .inl (cA 0, 6, .inl (q3.2.2.1))), (h1 15, .inl (cA 0, 6, .inl (q3.2.2.2.1))), (h1 16, .inl (cA 0, 6, .inl (q3.2.2.2.2.1))), (h1 17, .inl (cA 0, 6, .inl (q3.2.2.2.2.2.1))), (h1 18, .inl (cA 0, 6, .inl (q3.2.2.2.2.2.2.1))), (h1 22, .inr (3, [.ref (h1 23), .ref (h1 24), .int (s1.2.2.2.2.1.2.2.1), .int (s1.2.2.2.2.1.2.2.2)])), (h1 23, .inl (cA 0, 10, .inl (s1.2.2.2.2.1.1))), (h1 24, .inl (cA 0, 10, .inl (s1.2.2.2.2.1.2.1)))]) rfl rfl rfl rfl rfl (fun H locs hP hD hS => ?_)
  refine lv_aload_n hx hb dX3_copyFrom_44 rfl (lv_at hl 0 rfl) ?_
  refine va_get (D := D) (ci := 4) (v := .ref (h0 22)) (C := RX3) (T := TX3) (N := 7) hx hb hts iX3 hown hK hP 0 rfl rfl 4 (by decide) (hts _ qfl_X3_42) (fun _ h9 => h9) rfl dX3_copyFrom_45 ?_
  refine lv_aload_n hx hb dX3_copyFrom_48 rfl (lv_at hl 1 rfl) ?_
  refine va_get (D := D) (ci := 4) (v := .ref (h1 22)) (C := RX3) (T := TX3) (N := 7) hx hb hts iX3 hown hK hP 25 rfl rfl 4 (by decide) (hts _ qfl_X3_42) (fun _ h9 => h9) rfl dX3_copyFrom_49 ?_
  obtain ⟨q5, c5, h⟩ := x_call h
  refine xCall (w2 := BooW cA h0 ((Boos4 (Boos3 (Boos2 (Boos1 (Boos0 s0 q1.1) q2.1) q3.1) q4.1) q5.1)) ++ BooW cA h1 ((Boos4 (Boos3 (Boos2 (Boos1 (Boos0 s1 q1.2) q2.2) q3.2) q4.2) q5.2))) (zRunV (n := 1) (As := [.ref (h1 22)]) (rest := []) ⟨hx, hb, hml, hown, hts⟩ (kX2_copyFrom l D cA ad (fun k => h0 (k + 22)) (fun k => h1 (k + 22)) _ N s0.2.2.2.2.1 s1.2.2.2.2.1 q5 c5) qco_X2_copyFrom qml_X3_59 qin_X2_copyFrom qse_X2_copyFrom qini_X2 (by decide +kernel) (by rw [← erm]; rfl) hN hE hS hA hK hP hD [22, 23, 24, 47, 48, 49] rfl rfl (q0 := 0) rfl rfl rfl rfl rfl hl.1 rfl (lv_room (Nat.le_of_ble_eq_true rfl)) dX3_copyFrom_52 ⟨Nat.zero_le _, Nat.zero_le _⟩) hP hD hS hA [22, 23, 24, 47, 48, 49] [0, 1, 2, 3, 4, 5, 6, 7, 8, 9, 10, 11, 12, 13, 14, 15, 16, 17, 18, 19, 20, 21, 25, 26, 27, 28, 29, 30, 31, 32, 33, 34, 35, 36, 37, 38, 39, 40, 41, 42, 43, 44, 45, 46] [0, 1, 2, 3, 4, 5, 6, 7, 8, 9, 10, 11, 12, 13, 14, 15, 16, 17, 18, 19, 20, 21, 44, 45, 46, 22, 23, 24, 25, 26, 27, 28, 29, 30, 31, 32, 33, 34, 35, 36, 37, 38, 39, 40, 41, 42, 43, 47, 48, 49] rfl (wr := [(h0 0, .inr (4, [.ref (h0 1), .ref (h0 6), .ref (h0 12), .ref (h0 19), .ref (h0 22), .int (s0.2.2.2.2.2.1), .int (s0.2.2.2.2.2.2)])), (h0 1, .inr (2, [.ref (h0 2), .ref (h0 3), .ref (h0 4), .ref (h0 5), .int (q1.1.2.2.2.2)])), (h0 2, .inl (cA 1, 12, .inl (q1.1.1))), (h0 3, .inl (cA 0, 12, .inl (q1.1.2.1))), (h0 4, .inl (cA 2, 12, .inr (.inl (q1.1.2.2.1)))), (h0 5, .inl (cA 2, 12, .inr (.inl (q1.1.2.2.2.1)))), (h0 6, .inr (6, [.ref (h0 7), .ref (h0 8), .ref (h0 9), .ref (h0 10), .ref (h0 11), .int (q2.1.2.2.2.2.2)])), (h0 7, .inl (cA 0, 20, .inl (q2.1.1))), (h0 8, .inl (cA 0, 20, .inl (q2.1.2.1))), (h0 9, .inl (cA 2, 20, .inr (.inl (q2.1.2.2.1)))), (h0 10, .inl (cA 0, 20, .inl (q2.1.2.2.2.1))), (h0 11, .inl (cA 0, 20, .inl (q2.1.2.2.2.2.1))), (h0 12, .inr (8, [.ref (h0 13), .ref (h0 14), .ref (h0 15), .ref (h0 16), .ref (h0 17), .ref (h0 18), .int (q3.1.2.2.2.2.2.2)])), (h0 13, .inl (cA 0, 6, .inl (q3.1.1))), (h0 14, .inl (cA 0, 6, .inl (q3.1.2.1))), (h0 15, .inl (cA 0, 6, .inl (q3.1.2.2.1))), (h0 16, .inl (cA 0, 6, .inl (q3.1.2.2.2.1))), (h0 17, .inl (cA 0, 6, .inl (q3.1.2.2.2.2.1))), (h0 18, .inl (cA 0, 6, .inl (q3.1.2.2.2.2.2.1))), (h0 19, .inr (10, [.ref (h0 20), .ref (h0 21), .int (q4.1.2.2)])), (h0 20, .inl (cA 0, 8, .inl (q4.1.1))), (h0 21, .inl (cA 0, 8, .inl (q4.1.2.1))), (h1 0, .inr (4, [.ref (h1 1), .ref (h1 6), .ref (h1 12), .ref (h1 19), .ref (h1 22), .int (s1.2.2.2.2.2.1), .int (s1.2.2.2.2.2.2)])), (h1 1, .inr (2, [.ref (h1 2), .ref (h1 3), .ref (h1 4), .ref (h1 5), .int (q1.2.2.2.2.2)])), (h1 2, .inl (cA 1, 12, .inl (q1.2.1))), (h1 3, .inl (cA 0, 12, .inl (q1.2.2.1))), (h1 4, .inl (cA 2, 12, .inr (.inl (q1.2.2.2.1)))), (h1 5, .inl (cA 2, 12, .inr (.inl (q1.2.2.2.2.1)))), (h1 6, .inr (6, [.ref (h1 7), .ref (h1 8), .ref (h1 9), .ref (h1 10), .ref (h1 11), .int (q2.2.2.2.2.2.2)])), (h1 7, .inl (cA 0, 20, .inl (q2.2.1))), (h1 8, .inl (cA 0, 20, .inl (q2.2.2.1))), (h1 9, .inl (cA 2, 20, .inr (.inl (q2.2.2.2.1)))), (h1 10, .inl (cA 0, 20, .inl (q2.2.2.2.2.1))), (h1 11, .inl (cA 0, 20, .inl (q2.2.2.2.2.2.1))), (h1 12, .inr (8, [.ref (h1 13), .ref (h1 14), .ref (h1 15), .ref (h1 16), .ref (h1 17), .ref (h1 18), .int (q3.2.2.2.2.2.2.2)])), (h1 13, .inl (cA 0, 6, .inl (q3.2.1))), (h1 14, .inl (cA 0, 6, .inl (q3.2.2.1))), (h1 15, .inl (cA 0, 6, .inl (q3.2.2.2.1))), (h1 16, .inl (cA 0, 6, .inl (q3.2.2.2.2.1))), (h1 17, .inl (cA 0, 6, .inl (q3.2.2.2.2.2.1))), (h1 18, .inl (cA 0, 6, .inl (q3.2.2.2.2.2.2.1))), (h1 19, .inr (10, [.ref (h1 20), .ref (h1 21), .int (q4.2.2.2)])), (h1 20, .inl (cA 0, 8, .inl (q4.2.1))), (h1 21, .inl (cA 0, 8, .inl (q4.2.2.1)))]) rfl rfl rfl rfl rfl (fun H locs hP hD hS => ?_)
  refine lv_aload_n hx hb dX3_copyFrom_55 rfl (lv_at hl 0 rfl) ?_
  refine lv_aload_n hx hb dX3_copyFrom_56 rfl (lv_at hl 1 rfl) ?_
  refine va_get (D := D) (ci := 4) (v := .int s1.2.2.2.2.2.1) (C := RX3) (T := TX3) (N := 7) hx hb hts iX3 hown hK hP 25 rfl rfl 5 (by decide) (hts _ qfl_X3_62) (fun _ h9 => h9) rfl dX3_copyFrom_57 ?_
  refine va_put (D := D) (ci := 4) (v := .int s1.2.2.2.2.2.1) (ty := .int) (C := RX3) (T := TX3) (N := 7) hx hb hts iX3 tyX3 tyX3_ok nmX3 hown hK hP hD hS 0 rfl rfl 5 (by decide) (hts _ qfl_X3_62) (fun _ h9 => h9) rfl (by decide +kernel) rfl rfl (Nat.le_of_ble_eq_true rfl) dX3_copyFrom_60 (fun H locs hP hD hS => ?_)
  have hP : va_P D vwCl (BooW cA h0 ((Boos6 (Boos4 (Boos3 (Boos2 (Boos1 (Boos0 s1 q1.1) q2.1) q3.1) q4.1) q5.1) s0.2.2.2.2.2.2)) ++ BooW cA h1 ((Boos4 (Boos3 (Boos2 (Boos1 (Boos0 s1 q1.2) q2.2) q3.2) q4.2) q5.2))) H := hP
  have hD : va_D A (BooW cA h0 ((Boos6 (Boos4 (Boos3 (Boos2 (Boos1 (Boos0 s1 q1.1) q2.1) q3.1) q4.1) q5.1) s0.2.2.2.2.2.2)) ++ BooW cA h1 ((Boos4 (Boos3 (Boos2 (Boos1 (Boos0 s1 q1.2) q2.2) q3.2) q4.2) q5.2))) := hD
  refine lv_aload_n hx hb dX3_copyFrom_63 rfl (lv_at hl 0 rfl) ?_
  refine lv_aload_n hx hb dX3_copyFrom_64 rfl (lv_at hl 1 rfl) ?_
  refine va_get (D := D) (ci := 4) (v := .int s1.2.2.2.2.2.2) (C := RX3) (T := TX3) (N := 7) hx hb hts iX3 hown hK hP 25 rfl rfl 6 (by decide) (hts _ qfl_X3_66) (fun _ h9 => h9) rfl dX3_copyFrom_65 ?_
  refine va_put (D := D) (ci := 4) (v := .int s1.2.2.2.2.2.2) (ty := .int) (C := RX3) (T := TX3) (N := 7) hx hb hts iX3 tyX3 tyX3_ok nmX3 hown hK hP hD hS 0 rfl rfl 6 (by decide) (hts _ qfl_X3_66) (fun _ h9 => h9) rfl (by decide +kernel) rfl rfl (Nat.le_of_ble_eq_true rfl) dX3_copyFrom_68 (fun H locs hP hD hS => ?_)
  have hP : va_P D vwCl (BooW cA h0 ((Boos4 (Boos3 (Boos2 (Boos1 (Boos0 s1 q1.1) q2.1) q3.1) q4.1) q5.1)) ++ BooW cA h1 ((Boos4 (Boos3 (Boos2 (Boos1 (Boos0 s1 q1.2) q2.2) q3.2) q4.2) q5.2))) H := hP
  have hD : va_D A (BooW cA h0 ((Boos4 (Boos3 (Boos2 (Boos1 (Boos0 s1 q1.1) q2.1) q3.1) q4.1) q5.1)) ++ BooW cA h1 ((Boos4 (Boos3 (Boos2 (Boos1 (Boos0 s1 q1.2) q2.2) q3.2) q4.2) q5.2))) := hD
  have h := Option.some.inj h
  subst h
  exact xVret hx hb hr hlocks hP hK hD hS dX3_copyFrom_71
def fX3_makeEntry (N : Nat) (a1 : Int32) (a2 : Int32) (a3 : Int64) (s0 : BooS) : Option (Int32 × BooS) :=
  xcall (fX1_move N a1 a2 a3 s0.1) fun q1 =>
  xcall (fX6_add N a1 a2 a3 s0.2.2.2.2.2.1 s0.2.1) fun q2 =>
  some (q2.1, (Boos1 (Boos0 s0 q1) q2.2))
set_option maxRecDepth 100000 in
set_option maxHeartbeats 4000000 in
theorem kX3_makeEntry (l : Launch) (D : va_G) (cA : Nat → ClassId) (ad : Nat → Nat) (h0 : Nat → Nat) (sz N : Nat) (a1 : Int32) (a2 : Int32) (a3 : Int64) (s0 : BooS) (q : Int32 × BooS) (h : fX3_makeEntry N a1 a2 a3 s0 = some q) : zM l yX3_makeEntry cX3_makeEntry 5 (some .int) ({ frames := 2, cells := 0, slots := 0, locals := 47 }) D cA ad (BooW cA h0 s0) sz [.ref (h0 0), .int a1, .int a2, .long a3] (some (.int q.1)) (BooW cA h0 q.2) := by
  generalize erm : ({ frames := 2, cells := 0, slots := 0, locals := 47 } : Room) = rm
  refine zMet (by decide) (Nat.le_of_ble_eq_true rfl) ?_
  intro p e s m below meth c hx hb hr hlocks hml hts hown hin hK hP A eA hD hS hA hsz hN hE ls hl
  have hl : lv_has ls 5 [(0, .ref (h0 0)), (1, .int a1), (2, .int a2), (3, .long a3)] := hl
  clear eA
  rw [fX3_makeEntry] at h
  refine lv_aload_n hx hb dX3_makeEntry_0 rfl (lv_at hl 0 rfl) ?_
  refine va_get (D := D) (ci := 4) (v := .ref (h0 1)) (C := RX3) (T := TX3) (N := 7) hx hb hts iX3 hown hK hP 0 rfl rfl 0 (by decide) (hts _ qfl_X3_12) (fun _ h9 => h9) rfl dX3_makeEntry_1 ?_
  refine lv_iload_n hx hb dX3_makeEntry_4 rfl (lv_at hl 1 rfl) ?_
  refine lv_iload_n hx hb dX3_makeEntry_5 rfl (lv_at hl 2 rfl) ?_
  refine lv_lload_n hx hb dX3_makeEntry_6 rfl (lv_at hl 3 rfl) ?_
  obtain ⟨q1, c1, h⟩ := x_call h
  refine xCall (w2 := BooW cA h0 ((Boos0 s0 q1))) (zRunV (n := 3) (As := [.int a1, .int a2, .long a3]) (rest := []) ⟨hx, hb, hml, hown, hts⟩ (kX1_move l D cA ad (fun k => h0 (k + 1)) _ N a1 a2 a3 s0.1 q1 c1) qco_X1_move qml_X3_69 qin_X1_move qse_X1_move qini_X1 (by decide +kernel) (by rw [← erm]; rfl) hN hE hS hA hK hP hD [1, 2, 3, 4, 5] rfl rfl (q0 := 0) rfl rfl rfl rfl rfl hl.1 rfl (lv_room (Nat.le_of_ble_eq_true rfl)) dX3_makeEntry_7 ⟨Nat.zero_le _, Nat.zero_le _⟩) hP hD hS hA [1, 2, 3, 4, 5] [0, 6, 7, 8, 9, 10, 11, 12, 13, 14, 15, 16, 17, 18, 19, 20, 21, 22, 23, 24] [0, 20, 21, 22, 23, 24, 1, 2, 3, 4, 5, 6, 7, 8, 9, 10, 11, 12, 13, 14, 15, 16, 17, 18, 19] rfl (wr := [(h0 0, .inr (4, [.ref (h0 1), .ref (h0 6), .ref (h0 12), .ref (h0 19), .ref (h0 22), .int (s0.2.2.2.2.2.1), .int (s0.2.2.2.2.2.2)])), (h0 6, .inr (6, [.ref (h0 7), .ref (h0 8), .ref (h0 9), .ref (h0 10), .ref (h0 11), .int (s0.2.1.2.2.2.2.2)])), (h0 7, .inl (cA 0, 20, .inl (s0.2.1.1))), (h0 8, .inl (cA 0, 20, .inl (s0.2.1.2.1))), (h0 9, .inl (cA 2, 20, .inr (.inl (s0.2.1.2.2.1)))), (h0 10, .inl (cA 0, 20, .inl (s0.2.1.2.2.2.1))), (h0 11, .inl (cA 0, 20, .inl (s0.2.1.2.2.2.2.1))), (h0 12, .inr (8, [.ref (h0 13), .ref (h0 14), .ref (h0 15), .ref (h0 16), .ref (h0 17), .ref (h0 18), .int (s0.2.2.1.2.2.2.2.2.2)])), (h0 13, .inl (cA 0, 6, .inl (s0.2.2.1.1))), (h0 14, .inl (cA 0, 6, .inl (s0.2.2.1.2.1))), (h0 15, .inl (cA 0, 6, .inl (s0.2.2.1.2.2.1))), (h0 16, .inl (cA 0, 6, .inl (s0.2.2.1.2.2.2.1))), (h0 17, .inl (cA 0, 6, .inl (s0.2.2.1.2.2.2.2.1))), (h0 18, .inl (cA 0, 6, .inl (s0.2.2.1.2.2.2.2.2.1))), (h0 19, .inr (10, [.ref (h0 20), .ref (h0 21), .int (s0.2.2.2.1.2.2)])), (h0 20, .inl (cA 0, 8, .inl (s0.2.2.2.1.1))), (h0 21, .inl (cA 0, 8, .inl (s0.2.2.2.1.2.1))), (h0 22, .inr (3, [.ref (h0 23), .ref (h0 24), .int (s0.2.2.2.2.1.2.2.1), .int (s0.2.2.2.2.1.2.2.2)])), (h0 23, .inl (cA 0, 10, .inl (s0.2.2.2.2.1.1))), (h0 24, .inl (cA 0, 10, .inl (s0.2.2.2.2.1.2.1)))]) rfl rfl rfl rfl rfl (fun H locs hP hD hS => ?_)
  refine lv_aload_n hx hb dX3_makeEntry_10 rfl (lv_at hl 0 rfl) ?_
  refine va_get (D := D) (ci := 4) (v := .ref (h0 6)) (C := RX3) (T := TX3) (N := 7) hx hb hts iX3 hown hK hP 0 rfl rfl 1 (by decide) (hts _ qfl_X3_21) (fun _ h9 => h9) rfl dX3_makeEntry_11 ?_
  refine lv_iload_n hx hb dX3_makeEntry_14 rfl (lv_at hl 1 rfl) ?_
  refine lv_iload_n hx hb dX3_makeEntry_15 rfl (lv_at hl 2 rfl) ?_
  refine lv_lload_n hx hb dX3_makeEntry_16 rfl (lv_at hl 3 rfl) ?_
  refine lv_aload_n hx hb dX3_makeEntry_17 rfl (lv_at hl 0 rfl) ?_
  refine va_get (D := D) (ci := 4) (v := .int s0.2.2.2.2.2.1) (C := RX3) (T := TX3) (N := 7) hx hb hts iX3 hown hK hP 0 rfl rfl 5 (by decide) (hts _ qfl_X3_62) (fun _ h9 => h9) rfl dX3_makeEntry_18 ?_
  obtain ⟨q2, c2, h⟩ := x_call h
  refine xCall (w2 := BooW cA h0 ((Boos1 (Boos0 s0 q1) q2.2))) (zRunV (n := 4) (As := [.int a1, .int a2, .long a3, .int s0.2.2.2.2.2.1]) (rest := []) ⟨hx, hb, hml, hown, hts⟩ (kX6_add l D cA ad (fun k => h0 (k + 6)) _ N a1 a2 a3 s0.2.2.2.2.2.1 s0.2.1 q2 c2) qco_X6_add qml_X3_73 qin_X6_add qse_X6_add qini_X6 (by decide +kernel) (by rw [← erm]; rfl) hN hE hS hA hK hP hD [6, 7, 8, 9, 10, 11] rfl rfl (q0 := 0) rfl rfl rfl rfl rfl hl.1 rfl (lv_room (Nat.le_of_ble_eq_true rfl)) dX3_makeEntry_21 ⟨Nat.zero_le _, Nat.zero_le _⟩) hP hD hS hA [6, 7, 8, 9, 10, 11] [0, 1, 2, 3, 4, 5, 12, 13, 14, 15, 16, 17, 18, 19, 20, 21, 22, 23, 24] [0, 1, 2, 3, 4, 5, 19, 20, 21, 22, 23, 24, 6, 7, 8, 9, 10, 11, 12, 13, 14, 15, 16, 17, 18] rfl (wr := [(h0 0, .inr (4, [.ref (h0 1), .ref (h0 6), .ref (h0 12), .ref (h0 19), .ref (h0 22), .int (s0.2.2.2.2.2.1), .int (s0.2.2.2.2.2.2)])), (h0 1, .inr (2, [.ref (h0 2), .ref (h0 3), .ref (h0 4), .ref (h0 5), .int (q1.2.2.2.2)])), (h0 2, .inl (cA 1, 12, .inl (q1.1))), (h0 3, .inl (cA 0, 12, .inl (q1.2.1))), (h0 4, .inl (cA 2, 12, .inr (.inl (q1.2.2.1)))), (h0 5, .inl (cA 2, 12, .inr (.inl (q1.2.2.2.1)))), (h0 12, .inr (8, [.ref (h0 13), .ref (h0 14), .ref (h0 15), .ref (h0 16), .ref (h0 17), .ref (h0 18), .int (s0.2.2.1.2.2.2.2.2.2)])), (h0 13, .inl (cA 0, 6, .inl (s0.2.2.1.1))), (h0 14, .inl (cA 0, 6, .inl (s0.2.2.1.2.1))), (h0 15, .inl (cA 0, 6, .inl (s0.2.2.1.2.2.1))), (h0 16, .inl (cA 0, 6, .inl (s0.2.2.1.2.2.2.1))), (h0 17, .inl (cA 0, 6, .inl (s0.2.2.1.2.2.2.2.1))), (h0 18, .inl (cA 0, 6, .inl (s0.2.2.1.2.2.2.2.2.1))), (h0 19, .inr (10, [.ref (h0 20), .ref (h0 21), .int (s0.2.2.2.1.2.2)])), (h0 20, .inl (cA 0, 8, .inl (s0.2.2.2.1.1))), (h0 21, .inl (cA 0, 8, .inl (s0.2.2.2.1.2.1))), (h0 22, .inr (3, [.ref (h0 23), .ref (h0 24), .int (s0.2.2.2.2.1.2.2.1), .int (s0.2.2.2.2.1.2.2.2)])), (h0 23, .inl (cA 0, 10, .inl (s0.2.2.2.2.1.1))), (h0 24, .inl (cA 0, 10, .inl (s0.2.2.2.2.1.2.1)))]) rfl rfl rfl rfl rfl (fun H locs hP hD hS => ?_)
  have h := Option.some.inj h
  subst h
  exact xIret hx hb hr hlocks hP hK hD hS dX3_makeEntry_24
def fX3_makeReversal (N : Nat) (a1 : Int32) (s0 : BooS) : Option (Int32 × BooS) :=
  xcall (fX6_markReversed N a1 s0.2.1) fun q1 =>
  xcall (fX6_creditedBy N a1 q1) fun q2 =>
  xcall (fX6_debitedBy N a1 q1) fun q3 =>
  xcall (fX6_amountIn N a1 q1) fun q4 =>
  xcall (fX3_makeEntry N q2 q3 q4 ((Boos1 s0 q1))) fun q5 =>
  xcall (fX6_markReversal N q5.1 q5.2.2.1) fun q6 =>
  some (q5.1, (Boos1 q5.2 q6))
set_option maxRecDepth 100000 in
set_option maxHeartbeats 4000000 in
theorem kX3_makeReversal (l : Launch) (D : va_G) (cA : Nat → ClassId) (ad : Nat → Nat) (h0 : Nat → Nat) (sz N : Nat) (a1 : Int32) (s0 : BooS) (q : Int32 × BooS) (h : fX3_makeReversal N a1 s0 = some q) : zM l yX3_makeReversal cX3_makeReversal 3 (some .int) ({ frames := 3, cells := 0, slots := 0, locals := 71 }) D cA ad (BooW cA h0 s0) sz [.ref (h0 0), .int a1] (some (.int q.1)) (BooW cA h0 q.2) := by
  generalize erm : ({ frames := 3, cells := 0, slots := 0, locals := 71 } : Room) = rm
  refine zMet (by decide) (Nat.le_of_ble_eq_true rfl) ?_
  intro p e s m below meth c hx hb hr hlocks hml hts hown hin hK hP A eA hD hS hA hsz hN hE ls hl
  have hl : lv_has ls 3 [(0, .ref (h0 0)), (1, .int a1)] := hl
  clear eA
  rw [fX3_makeReversal] at h
  refine lv_aload_n hx hb dX3_makeReversal_0 rfl (lv_at hl 0 rfl) ?_
  refine va_get (D := D) (ci := 4) (v := .ref (h0 6)) (C := RX3) (T := TX3) (N := 7) hx hb hts iX3 hown hK hP 0 rfl rfl 1 (by decide) (hts _ qfl_X3_21) (fun _ h9 => h9) rfl dX3_makeReversal_1 ?_
  refine lv_iload_n hx hb dX3_makeReversal_4 rfl (lv_at hl 1 rfl) ?_
  obtain ⟨q1, c1, h⟩ := x_call h
  refine xCall (w2 := BooW cA h0 ((Boos1 s0 q1))) (zRunV (n := 1) (As := [.int a1]) (rest := []) ⟨hx, hb, hml, hown, hts⟩ (kX6_markReversed l D cA ad (fun k => h0 (k + 6)) _ N a1 s0.2.1 q1 c1) qco_X6_markReversed qml_X3_77 qin_X6_markReversed qse_X6_markReversed qini_X6 (by decide +kernel) (by rw [← erm]; rfl) hN hE hS hA hK hP hD [6, 7, 8, 9, 10, 11] rfl rfl (q0 := 0) rfl rfl rfl rfl rfl hl.1 rfl (lv_room (Nat.le_of_ble_eq_true rfl)) dX3_makeReversal_5 ⟨Nat.zero_le _, Nat.zero_le _⟩) hP hD hS hA [6, 7, 8, 9, 10, 11] [0, 1, 2, 3, 4, 5, 12, 13, 14, 15, 16, 17, 18, 19, 20, 21, 22, 23, 24] [0, 1, 2, 3, 4, 5, 19, 20, 21, 22, 23, 24, 6, 7, 8, 9, 10, 11, 12, 13, 14, 15, 16, 17, 18] rfl (wr := [(h0 0, .inr (4, [.ref (h0 1), .ref (h0 6), .ref (h0 12), .ref (h0 19), .ref (h0 22), .int (s0.2.2.2.2.2.1), .int (s0.2.2.2.2.2.2)])), (h0 1, .inr (2, [.ref (h0 2), .ref (h0 3), .ref (h0 4), .ref (h0 5), .int (s0.1.2.2.2.2)])), (h0 2, .inl (cA 1, 12, .inl (s0.1.1))), (h0 3, .inl (cA 0, 12, .inl (s0.1.2.1))), (h0 4, .inl (cA 2, 12, .inr (.inl (s0.1.2.2.1)))), (h0 5, .inl (cA 2, 12, .inr (.inl (s0.1.2.2.2.1)))), (h0 12, .inr (8, [.ref (h0 13), .ref (h0 14), .ref (h0 15), .ref (h0 16), .ref (h0 17), .ref (h0 18), .int (s0.2.2.1.2.2.2.2.2.2)])), (h0 13, .inl (cA 0, 6, .inl (s0.2.2.1.1))), (h0 14, .inl (cA 0, 6, .inl (s0.2.2.1.2.1))), (h0 15, .inl (cA 0, 6, .inl (s0.2.2.1.2.2.1))), (h0 16, .inl (cA 0, 6, .inl (s0.2.2.1.2.2.2.1))), (h0 17, .inl (cA 0, 6, .inl (s0.2.2.1.2.2.2.2.1))), (h0 18, .inl (cA 0, 6, .inl (s0.2.2.1.2.2.2.2.2.1))), (h0 19, .inr (10, [.ref (h0 20), .ref (h0 21), .int (s0.2.2.2.1.2.2)])), (h0 20, .inl (cA 0, 8, .inl (s0.2.2.2.1.1))), (h0 21, .inl (cA 0, 8, .inl (s0.2.2.2.1.2.1))), (h0 22, .inr (3, [.ref (h0 23), .ref (h0 24), .int (s0.2.2.2.2.1.2.2.1), .int (s0.2.2.2.2.1.2.2.2)])), (h0 23, .inl (cA 0, 10, .inl (s0.2.2.2.2.1.1))), (h0 24, .inl (cA 0, 10, .inl (s0.2.2.2.2.1.2.1)))]) rfl rfl rfl rfl rfl (fun H locs hP hD hS => ?_)
  refine lv_aload_n hx hb dX3_makeReversal_8 rfl (lv_at hl 0 rfl) ?_
  refine lv_aload_n hx hb dX3_makeReversal_9 rfl (lv_at hl 0 rfl) ?_
  refine va_get (D := D) (ci := 4) (v := .ref (h0 6)) (C := RX3) (T := TX3) (N := 7) hx hb hts iX3 hown hK hP 0 rfl rfl 1 (by decide) (hts _ qfl_X3_21) (fun _ h9 => h9) rfl dX3_makeReversal_10 ?_
  refine lv_iload_n hx hb dX3_makeReversal_13 rfl (lv_at hl 1 rfl) ?_
  obtain ⟨q2, c2, h⟩ := x_call h
  refine xCall (w2 := BooW cA h0 ((Boos1 s0 q1))) (zRunV (n := 1) (As := [.int a1]) (rest := [.ref (h0 0)]) ⟨hx, hb, hml, hown, hts⟩ (kX6_creditedBy l D cA ad (fun k => h0 (k + 6)) _ N a1 q1 q2 c2) qco_X6_creditedBy qml_X3_81 qin_X6_creditedBy qse_X6_creditedBy qini_X6 (by decide +kernel) (by rw [← erm]; rfl) hN hE hS hA hK hP hD [6, 7, 8, 9, 10, 11] rfl rfl (q0 := 0) rfl rfl rfl rfl rfl hl.1 rfl (lv_room (Nat.le_of_ble_eq_true rfl)) dX3_makeReversal_14 ⟨Nat.zero_le _, Nat.zero_le _⟩) hP hD hS hA [6, 7, 8, 9, 10, 11] [0, 1, 2, 3, 4, 5, 12, 13, 14, 15, 16, 17, 18, 19, 20, 21, 22, 23, 24] [0, 1, 2, 3, 4, 5, 19, 20, 21, 22, 23, 24, 6, 7, 8, 9, 10, 11, 12, 13, 14, 15, 16, 17, 18] rfl (wr := [(h0 0, .inr (4, [.ref (h0 1), .ref (h0 6), .ref (h0 12), .ref (h0 19), .ref (h0 22), .int (s0.2.2.2.2.2.1), .int (s0.2.2.2.2.2.2)])), (h0 1, .inr (2, [.ref (h0 2), .ref (h0 3), .ref (h0 4), .ref (h0 5), .int (s0.1.2.2.2.2)])), (h0 2, .inl (cA 1, 12, .inl (s0.1.1))), (h0 3, .inl (cA 0, 12, .inl (s0.1.2.1))), (h0 4, .inl (cA 2, 12, .inr (.inl (s0.1.2.2.1)))), (h0 5, .inl (cA 2, 12, .inr (.inl (s0.1.2.2.2.1)))), (h0 12, .inr (8, [.ref (h0 13), .ref (h0 14), .ref (h0 15), .ref (h0 16), .ref (h0 17), .ref (h0 18), .int (s0.2.2.1.2.2.2.2.2.2)])), (h0 13, .inl (cA 0, 6, .inl (s0.2.2.1.1))), (h0 14, .inl (cA 0, 6, .inl (s0.2.2.1.2.1))), (h0 15, .inl (cA 0, 6, .inl (s0.2.2.1.2.2.1))), (h0 16, .inl (cA 0, 6, .inl (s0.2.2.1.2.2.2.1))), (h0 17, .inl (cA 0, 6, .inl (s0.2.2.1.2.2.2.2.1))), (h0 18, .inl (cA 0, 6, .inl (s0.2.2.1.2.2.2.2.2.1))), (h0 19, .inr (10, [.ref (h0 20), .ref (h0 21), .int (s0.2.2.2.1.2.2)])), (h0 20, .inl (cA 0, 8, .inl (s0.2.2.2.1.1))), (h0 21, .inl (cA 0, 8, .inl (s0.2.2.2.1.2.1))), (h0 22, .inr (3, [.ref (h0 23), .ref (h0 24), .int (s0.2.2.2.2.1.2.2.1), .int (s0.2.2.2.2.1.2.2.2)])), (h0 23, .inl (cA 0, 10, .inl (s0.2.2.2.2.1.1))), (h0 24, .inl (cA 0, 10, .inl (s0.2.2.2.2.1.2.1)))]) rfl rfl rfl rfl rfl (fun H locs hP hD hS => ?_)
  refine lv_aload_n hx hb dX3_makeReversal_17 rfl (lv_at hl 0 rfl) ?_
  refine va_get (D := D) (ci := 4) (v := .ref (h0 6)) (C := RX3) (T := TX3) (N := 7) hx hb hts iX3 hown hK hP 0 rfl rfl 1 (by decide) (hts _ qfl_X3_21) (fun _ h9 => h9) rfl dX3_makeReversal_18 ?_
  refine lv_iload_n hx hb dX3_makeReversal_21 rfl (lv_at hl 1 rfl) ?_
  obtain ⟨q3, c3, h⟩ := x_call h
  refine xCall (w2 := BooW cA h0 ((Boos1 s0 q1))) (zRunV (n := 1) (As := [.int a1]) (rest := [.int q2, .ref (h0 0)]) ⟨hx, hb, hml, hown, hts⟩ (kX6_debitedBy l D cA ad (fun k => h0 (k + 6)) _ N a1 q1 q3 c3) qco_X6_debitedBy qml_X3_85 qin_X6_debitedBy qse_X6_debitedBy qini_X6 (by decide +kernel) (by rw [← erm]; rfl) hN hE hS hA hK hP hD [6, 7, 8, 9, 10, 11] rfl rfl (q0 := 0) rfl rfl rfl rfl rfl hl.1 rfl (lv_room (Nat.le_of_ble_eq_true rfl)) dX3_makeReversal_22 ⟨Nat.zero_le _, Nat.zero_le _⟩) hP hD hS hA [6, 7, 8, 9, 10, 11] [0, 1, 2, 3, 4, 5, 12, 13, 14, 15, 16, 17, 18, 19, 20, 21, 22, 23, 24] [0, 1, 2, 3, 4, 5, 19, 20, 21, 22, 23, 24, 6, 7, 8, 9, 10, 11, 12, 13, 14, 15, 16, 17, 18] rfl (wr := [(h0 0, .inr (4, [.ref (h0 1), .ref (h0 6), .ref (h0 12), .ref (h0 19), .ref (h0 22), .int (s0.2.2.2.2.2.1), .int (s0.2.2.2.2.2.2)])), (h0 1, .inr (2, [.ref (h0 2), .ref (h0 3), .ref (h0 4), .ref (h0 5), .int (s0.1.2.2.2.2)])), (h0 2, .inl (cA 1, 12, .inl (s0.1.1))), (h0 3, .inl (cA 0, 12, .inl (s0.1.2.1))), (h0 4, .inl (cA 2, 12, .inr (.inl (s0.1.2.2.1)))), (h0 5, .inl (cA 2, 12, .inr (.inl (s0.1.2.2.2.1)))), (h0 12, .inr (8, [.ref (h0 13), .ref (h0 14), .ref (h0 15), .ref (h0 16), .ref (h0 17), .ref (h0 18), .int (s0.2.2.1.2.2.2.2.2.2)])), (h0 13, .inl (cA 0, 6, .inl (s0.2.2.1.1))), (h0 14, .inl (cA 0, 6, .inl (s0.2.2.1.2.1))), (h0 15, .inl (cA 0, 6, .inl (s0.2.2.1.2.2.1))), (h0 16, .inl (cA 0, 6, .inl (s0.2.2.1.2.2.2.1))), (h0 17, .inl (cA 0, 6, .inl (s0.2.2.1.2.2.2.2.1))), (h0 18, .inl (cA 0, 6, .inl (s0.2.2.1.2.2.2.2.2.1))), (h0 19, .inr (10, [.ref (h0 20), .ref (h0 21), .int (s0.2.2.2.1.2.2)])), (h0 20, .inl (cA 0, 8, .inl (s0.2.2.2.1.1))), (h0 21, .inl (cA 0, 8, .inl (s0.2.2.2.1.2.1))), (h0 22, .inr (3, [.ref (h0 23), .ref (h0 24), .int (s0.2.2.2.2.1.2.2.1), .int (s0.2.2.2.2.1.2.2.2)])), (h0 23, .inl (cA 0, 10, .inl (s0.2.2.2.2.1.1))), (h0 24, .inl (cA 0, 10, .inl (s0.2.2.2.2.1.2.1)))]) rfl rfl rfl rfl rfl (fun H locs hP hD hS => ?_)
  refine lv_aload_n hx hb dX3_makeReversal_25 rfl (lv_at hl 0 rfl) ?_
  refine va_get (D := D) (ci := 4) (v := .ref (h0 6)) (C := RX3) (T := TX3) (N := 7) hx hb hts iX3 hown hK hP 0 rfl rfl 1 (by decide) (hts _ qfl_X3_21) (fun _ h9 => h9) rfl dX3_makeReversal_26 ?_
  refine lv_iload_n hx hb dX3_makeReversal_29 rfl (lv_at hl 1 rfl) ?_
  obtain ⟨q4, c4, h⟩ := x_call h
  refine xCall (w2 := BooW cA h0 ((Boos1 s0 q1))) (zRunV (n := 1) (As := [.int a1]) (rest := [.int q3, .int q2, .ref (h0 0)]) ⟨hx, hb, hml, hown, hts⟩ (kX6_amountIn l D cA ad (fun k => h0 (k + 6)) _ N a1 q1 q4 c4) qco_X6_amountIn qml_X3_88 qin_X6_amountIn qse_X6_amountIn qini_X6 (by decide +kernel) (by rw [← erm]; rfl) hN hE hS hA hK hP hD [6, 7, 8, 9, 10, 11] rfl rfl (q0 := 0) rfl rfl rfl rfl rfl hl.1 rfl (lv_room (Nat.le_of_ble_eq_true rfl)) dX3_makeReversal_30 ⟨Nat.zero_le _, Nat.zero_le _⟩) hP hD hS hA [6, 7, 8, 9, 10, 11] [0, 1, 2, 3, 4, 5, 12, 13, 14, 15, 16, 17, 18, 19, 20, 21, 22, 23, 24] [0, 1, 2, 3, 4, 5, 19, 20, 21, 22, 23, 24, 6, 7, 8, 9, 10, 11, 12, 13, 14, 15, 16, 17, 18] rfl (wr := [(h0 0, .inr (4, [.ref (h0 1), .ref (h0 6), .ref (h0 12), .ref (h0 19), .ref (h0 22), .int (s0.2.2.2.2.2.1), .int (s0.2.2.2.2.2.2)])), (h0 1, .inr (2, [.ref (h0 2), .ref (h0 3), .ref (h0 4), .ref (h0 5), .int (s0.1.2.2.2.2)])), (h0 2, .inl (cA 1, 12, .inl (s0.1.1))), (h0 3, .inl (cA 0, 12, .inl (s0.1.2.1))), (h0 4, .inl (cA 2, 12, .inr (.inl (s0.1.2.2.1)))), (h0 5, .inl (cA 2, 12, .inr (.inl (s0.1.2.2.2.1)))), (h0 12, .inr (8, [.ref (h0 13), .ref (h0 14), .ref (h0 15), .ref (h0 16), .ref (h0 17), .ref (h0 18), .int (s0.2.2.1.2.2.2.2.2.2)])), (h0 13, .inl (cA 0, 6, .inl (s0.2.2.1.1))), (h0 14, .inl (cA 0, 6, .inl (s0.2.2.1.2.1))), (h0 15, .inl (cA 0, 6, .inl (s0.2.2.1.2.2.1))), (h0 16, .inl (cA 0, 6, .inl (s0.2.2.1.2.2.2.1))), (h0 17, .inl (cA 0, 6, .inl (s0.2.2.1.2.2.2.2.1))), (h0 18, .inl (cA 0, 6, .inl (s0.2.2.1.2.2.2.2.2.1))), (h0 19, .inr (10, [.ref (h0 20), .ref (h0 21), .int (s0.2.2.2.1.2.2)])), (h0 20, .inl (cA 0, 8, .inl (s0.2.2.2.1.1))), (h0 21, .inl (cA 0, 8, .inl (s0.2.2.2.1.2.1))), (h0 22, .inr (3, [.ref (h0 23), .ref (h0 24), .int (s0.2.2.2.2.1.2.2.1), .int (s0.2.2.2.2.1.2.2.2)])), (h0 23, .inl (cA 0, 10, .inl (s0.2.2.2.2.1.1))), (h0 24, .inl (cA 0, 10, .inl (s0.2.2.2.2.1.2.1)))]) rfl rfl rfl rfl rfl (fun H locs hP hD hS => ?_)
  obtain ⟨q5, c5, h⟩ := x_call h
  refine xCall (w2 := BooW cA h0 q5.2) (zRunV (n := 3) (As := [.int q2, .int q3, .long q4]) (rest := []) ⟨hx, hb, hml, hown, hts⟩ (kX3_makeEntry l D cA ad h0 _ N q2 q3 q4 ((Boos1 s0 q1)) q5 c5) qco_X3_makeEntry qml_X3_92 qin_X3_makeEntry qse_X3_makeEntry qini_X3 (by decide +kernel) (by rw [← erm]; rfl) hN hE hS hA hK hP hD [0, 1, 2, 3, 4, 5, 6, 7, 8, 9, 10, 11, 12, 13, 14, 15, 16, 17, 18, 19, 20, 21, 22, 23, 24] rfl rfl (q0 := 0) rfl rfl rfl rfl rfl hl.1 rfl (lv_room (Nat.le_of_ble_eq_true rfl)) dX3_makeReversal_33 ⟨Nat.zero_le _, Nat.zero_le _⟩) hP hD hS hA [0, 1, 2, 3, 4, 5, 6, 7, 8, 9, 10, 11, 12, 13, 14, 15, 16, 17, 18, 19, 20, 21, 22, 23, 24] [] [0, 1, 2, 3, 4, 5, 6, 7, 8, 9, 10, 11, 12, 13, 14, 15, 16, 17, 18, 19, 20, 21, 22, 23, 24] rfl (wr := []) rfl rfl rfl rfl rfl (fun H locs hP hD hS => ?_)
  refine lv_istore_n (lv' := [(2, .int q5.1), (0, .ref (h0 0)), (1, .int a1)]) hx hb dX3_makeReversal_36 rfl hl (by decide) rfl (fun ls hl => ?_)
  refine lv_aload_n hx hb dX3_makeReversal_37 rfl (lv_at hl 1 rfl) ?_
  refine va_get (D := D) (ci := 4) (v := .ref (h0 6)) (C := RX3) (T := TX3) (N := 7) hx hb hts iX3 hown hK hP 0 rfl rfl 1 (by decide) (hts _ qfl_X3_21) (fun _ h9 => h9) rfl dX3_makeReversal_38 ?_
  refine lv_iload_n hx hb dX3_makeReversal_41 rfl (lv_at hl 0 rfl) ?_
  obtain ⟨q6, c6, h⟩ := x_call h
  refine xCall (w2 := BooW cA h0 ((Boos1 q5.2 q6))) (zRunV (n := 1) (As := [.int q5.1]) (rest := []) ⟨hx, hb, hml, hown, hts⟩ (kX6_markReversal l D cA ad (fun k => h0 (k + 6)) _ N q5.1 q5.2.2.1 q6 c6) qco_X6_markReversal qml_X3_96 qin_X6_markReversal qse_X6_markReversal qini_X6 (by decide +kernel) (by rw [← erm]; rfl) hN hE hS hA hK hP hD [6, 7, 8, 9, 10, 11] rfl rfl (q0 := 0) rfl rfl rfl rfl rfl hl.1 rfl (lv_room (Nat.le_of_ble_eq_true rfl)) dX3_makeReversal_42 ⟨Nat.zero_le _, Nat.zero_le _⟩) hP hD hS hA [6, 7, 8, 9, 10, 11] [0, 1, 2, 3, 4, 5, 12, 13, 14, 15, 16, 17, 18, 19, 20, 21, 22, 23, 24] [0, 1, 2, 3, 4, 5, 19, 20, 21, 22, 23, 24, 6, 7, 8, 9, 10, 11, 12, 13, 14, 15, 16, 17, 18] rfl (wr := [(h0 0, .inr (4, [.ref (h0 1), .ref (h0 6), .ref (h0 12), .ref (h0 19), .ref (h0 22), .int (q5.2.2.2.2.2.2.1), .int (q5.2.2.2.2.2.2.2)])), (h0 1, .inr (2, [.ref (h0 2), .ref (h0 3), .ref (h0 4), .ref (h0 5), .int (q5.2.1.2.2.2.2)])), (h0 2, .inl (cA 1, 12, .inl (q5.2.1.1))), (h0 3, .inl (cA 0, 12, .inl (q5.2.1.2.1))), (h0 4, .inl (cA 2, 12, .inr (.inl (q5.2.1.2.2.1)))), (h0 5, .inl (cA 2, 12, .inr (.inl (q5.2.1.2.2.2.1)))), (h0 12, .inr (8, [.ref (h0 13), .ref (h0 14), .ref (h0 15), .ref (h0 16), .ref (h0 17), .ref (h0 18), .int (q5.2.2.2.1.2.2.2.2.2.2)])), (h0 13, .inl (cA 0, 6, .inl (q5.2.2.2.1.1))), (h0 14, .inl (cA 0, 6, .inl (q5.2.2.2.1.2.1))), (h0 15, .inl (cA 0, 6, .inl (q5.2.2.2.1.2.2.1))), (h0 16, .inl (cA 0, 6, .inl (q5.2.2.2.1.2.2.2.1))), (h0 17, .inl (cA 0, 6, .inl (q5.2.2.2.1.2.2.2.2.1))), (h0 18, .inl (cA 0, 6, .inl (q5.2.2.2.1.2.2.2.2.2.1))), (h0 19, .inr (10, [.ref (h0 20), .ref (h0 21), .int (q5.2.2.2.2.1.2.2)])), (h0 20, .inl (cA 0, 8, .inl (q5.2.2.2.2.1.1))), (h0 21, .inl (cA 0, 8, .inl (q5.2.2.2.2.1.2.1))), (h0 22, .inr (3, [.ref (h0 23), .ref (h0 24), .int (q5.2.2.2.2.2.1.2.2.1), .int (q5.2.2.2.2.2.1.2.2.2)])), (h0 23, .inl (cA 0, 10, .inl (q5.2.2.2.2.2.1.1))), (h0 24, .inl (cA 0, 10, .inl (q5.2.2.2.2.2.1.2.1)))]) rfl rfl rfl rfl rfl (fun H locs hP hD hS => ?_)
  refine lv_iload_n hx hb dX3_makeReversal_45 rfl (lv_at hl 0 rfl) ?_
  have h := Option.some.inj h
  subst h
  exact xIret hx hb hr hlocks hP hK hD hS dX3_makeReversal_46
def fX3_letPass_L22 (N : Nat) (K88 : Int32 → Int32 → Int32 → BooS → Option (Int32 × BooS)) : Nat → Int32 → Int32 → Int32 → Int32 → BooS → Option (Int32 × BooS)
  | 0, _, _, _, _, _ => none
  | n + 1, v1_8, v2_8, v3_8, v4_8, s0_8 =>
    if s0_8.2.2.1.2.2.2.2.2.2 ≤ v4_8 then
      K88 v1_8 v2_8 v3_8 s0_8
    else
      xcall (fX8_comesDue N v4_8 s0_8.2.2.1) fun q10 =>
      xjoin (fun (v1_11 : Int32) (v2_11 : Int32) (v3_11 : Int32) (v4_11 : Int32) (s0_11 : BooS) =>
          xlet (v4_11 + (1)) fun x12 =>
          fX3_letPass_L22 N K88 n v1_11 v2_11 v3_11 x12 s0_11
        ) fun J82 =>
      if q10.1 = 0 then
        J82 v1_8 v2_8 v3_8 v4_8 ((Boos2 s0_8 q10.2))
      else
        xcall (fX8_debitedBy N v4_8 q10.2) fun q14 =>
        xcall (fX8_creditedBy N v4_8 q10.2) fun q15 =>
        xcall (fX8_amountIn N v4_8 q10.2) fun q16 =>
        xcall (fX3_makeEntry N q14 q15 (q16.toInt64) ((Boos2 s0_8 q10.2))) fun q17 =>
        xlet (v2_8 + (1)) fun x18 =>
        J82 v1_8 x18 v3_8 v4_8 q17.2
def fX3_letPass_L4 (N : Nat) (K101 : Int32 → BooS → Option (Int32 × BooS)) : Nat → Int32 → Int32 → Int32 → BooS → Option (Int32 × BooS)
  | 0, _, _, _, _ => none
  | n + 1, v1_2, v2_2, v3_2, s0_2 =>
    if v1_2 ≤ v3_2 then
      K101 v2_2 s0_2
    else
      xlet (s0_2.2.2.2.2.2.1 + 1) fun x4 =>
      xjoin (fun (v1_5 : Int32) (v2_5 : Int32) (v3_5 : Int32) (s0_5 : BooS) =>
          xcall (fX8_dropEnded N s0_5.2.2.1) fun q6 =>
          xlet (v3_5 + (1)) fun x7 =>
          fX3_letPass_L4 N K101 n v1_5 v2_5 x7 ((Boos2 s0_5 q6))
        ) fun K88 =>
      fX3_letPass_L22 N K88 N v1_2 v2_2 v3_2 0 ((Boos5 s0_2 x4))
def fX3_letPass (N : Nat) (a1 : Int32) (s0 : BooS) : Option (Int32 × BooS) :=
  xjoin (fun (v2_1 : Int32) (s0_1 : BooS) =>
      some (v2_1, s0_1)
    ) fun K101 =>
  fX3_letPass_L4 N K101 N a1 0 0 s0
set_option maxRecDepth 100000 in
set_option maxHeartbeats 4000000 in
theorem kX3_letPass (l : Launch) (D : va_G) (cA : Nat → ClassId) (ad : Nat → Nat) (h0 : Nat → Nat) (sz N : Nat) (a1 : Int32) (s0 : BooS) (q : Int32 × BooS) (h : fX3_letPass N a1 s0 = some q) : zM l yX3_letPass cX3_letPass 5 (some .int) ({ frames := 3, cells := 0, slots := 0, locals := 71 }) D cA ad (BooW cA h0 s0) sz [.ref (h0 0), .int a1] (some (.int q.1)) (BooW cA h0 q.2) := by
  generalize erm : ({ frames := 3, cells := 0, slots := 0, locals := 71 } : Room) = rm
  refine zMet (by decide) (Nat.le_of_ble_eq_true rfl) ?_
  intro p e s m below meth c hx hb hr hlocks hml hts hown hin hK hP A eA hD hS hA hsz hN hE ls hl
  have hl : lv_has ls 5 [(0, .ref (h0 0)), (1, .int a1)] := hl
  clear eA
  rw [fX3_letPass] at h
  refine lv_iconst (v := 0) hx hb dX3_letPass_0 (by decide) ?_
  refine lv_istore_n (lv' := [(2, .int 0), (0, .ref (h0 0)), (1, .int a1)]) hx hb dX3_letPass_1 rfl hl (by decide) rfl (fun ls hl => ?_)
  refine lv_iconst (v := 0) hx hb dX3_letPass_2 (by decide) ?_
  refine lv_istore_n (lv' := [(3, .int 0), (2, .int 0), (0, .ref (h0 0)), (1, .int a1)]) hx hb dX3_letPass_3 rfl hl (by decide) rfl (fun ls hl => ?_)
  obtain ⟨K101, eK101, h⟩ := x_join h
  have hJ_K101 : ∀ (v2_1 : Int32) (s0_1 : BooS) (H : Heap) (locs : List Loc), va_P D vwCl (BooW cA h0 s0_1) H → va_D A (BooW cA h0 s0_1) → va_S A s.heap H locs → ∀ ls : Array Slot, lv_has ls 5 [(2, .int v2_1)] → K101 v2_1 s0_1 = some q → W p l e rm s m ([.ref (h0 0), .int a1] : List Value).toArray below meth c H locs 0 0 (MQ below (xQ D cA A (BooW cA h0 q.2) (some (.int q.1))) ([.ref (h0 0), .int a1] : List Value).toArray s 0 0 A) (F0 m 101 ls []) := by
    clear h hP hD hS hl
    intro v2_1 s0_1 H locs hP hD hS ls hl h
    rw [eK101] at h
    refine lv_iload_n hx hb dX3_letPass_101 rfl (lv_at hl 0 rfl) ?_
    have h := Option.some.inj h
    subst h
    exact xIret hx hb hr hlocks hP hK hD hS dX3_letPass_102
  have hL4 : ∀ (n : Nat) (v1_2 : Int32) (v2_2 : Int32) (v3_2 : Int32) (s0_2 : BooS) (H : Heap) (locs : List Loc), va_P D vwCl (BooW cA h0 s0_2) H → va_D A (BooW cA h0 s0_2) → va_S A s.heap H locs → ∀ ls : Array Slot, lv_has ls 5 [(0, .ref (h0 0)), (1, .int v1_2), (2, .int v2_2), (3, .int v3_2)] → fX3_letPass_L4 N K101 n v1_2 v2_2 v3_2 s0_2 = some q → W p l e rm s m ([.ref (h0 0), .int a1] : List Value).toArray below meth c H locs 0 0 (MQ below (xQ D cA A (BooW cA h0 q.2) (some (.int q.1))) ([.ref (h0 0), .int a1] : List Value).toArray s 0 0 A) (F0 m 4 ls []) := by
    clear h hP hD hS hl
    intro n
    induction n with
    | zero => intro v1_2 v2_2 v3_2 s0_2 H locs hP hD hS ls hl h; rw [fX3_letPass_L4] at h; cases h
    | succ n ih =>
      intro v1_2 v2_2 v3_2 s0_2 H locs hP hD hS ls hl h
      rw [fX3_letPass_L4] at h
      refine lv_iload_n hx hb dX3_letPass_4 rfl (lv_at hl 3 rfl) ?_
      refine lv_iload_n hx hb dX3_letPass_5 rfl (lv_at hl 1 rfl) ?_
      refine lv_icmp_ge (tgt := 101) hx hb dX3_letPass_6 (by decide) (fun c3 => ?_) (fun c3 => ?_)
      · have h := x_t h c3
        exact hJ_K101 v2_2 s0_2 _ _ hP hD hS _ (lv_sub hl [2] rfl) h
      · have h := x_f h c3
        refine lv_aload_n hx hb dX3_letPass_9 rfl (lv_at hl 0 rfl) ?_
        refine lv_dup hx hb dX3_letPass_10 rfl ?_
        refine va_get (D := D) (ci := 4) (v := .int s0_2.2.2.2.2.2.1) (C := RX3) (T := TX3) (N := 7) hx hb hts iX3 hown hK hP 0 rfl rfl 5 (by decide) (hts _ qfl_X3_62) (fun _ h9 => h9) rfl dX3_letPass_11 ?_
        refine lv_iconst (v := 1) hx hb dX3_letPass_14 (by decide) ?_
        refine lv_iadd hx hb dX3_letPass_15 ?_
        refine lv_topi (fun x4 ex4 => ?_)
        have h := x_let h ex4
        refine va_put (D := D) (ci := 4) (v := .int x4) (ty := .int) (C := RX3) (T := TX3) (N := 7) hx hb hts iX3 tyX3 tyX3_ok nmX3 hown hK hP hD hS 0 rfl rfl 5 (by decide) (hts _ qfl_X3_62) (fun _ h9 => h9) rfl (by decide +kernel) rfl rfl (Nat.le_of_ble_eq_true rfl) dX3_letPass_16 (fun H locs hP hD hS => ?_)
        have hP : va_P D vwCl (BooW cA h0 ((Boos5 s0_2 x4))) H := hP
        have hD : va_D A (BooW cA h0 ((Boos5 s0_2 x4))) := hD
        refine lv_iconst (v := 0) hx hb dX3_letPass_19 (by decide) ?_
        refine lv_istore (lv' := [(4, .int 0), (0, .ref (h0 0)), (1, .int v1_2), (2, .int v2_2), (3, .int v3_2)]) hx hb dX3_letPass_20 hl (by decide) rfl (fun ls hl => ?_)
        obtain ⟨K88, eK88, h⟩ := x_join h
        have hJ_K88 : ∀ (v1_5 : Int32) (v2_5 : Int32) (v3_5 : Int32) (s0_5 : BooS) (H : Heap) (locs : List Loc), va_P D vwCl (BooW cA h0 s0_5) H → va_D A (BooW cA h0 s0_5) → va_S A s.heap H locs → ∀ ls : Array Slot, lv_has ls 5 [(0, .ref (h0 0)), (1, .int v1_5), (2, .int v2_5), (3, .int v3_5)] → K88 v1_5 v2_5 v3_5 s0_5 = some q → W p l e rm s m ([.ref (h0 0), .int a1] : List Value).toArray below meth c H locs 0 0 (MQ below (xQ D cA A (BooW cA h0 q.2) (some (.int q.1))) ([.ref (h0 0), .int a1] : List Value).toArray s 0 0 A) (F0 m 88 ls []) := by
          clear h hP hD hS hl
          intro v1_5 v2_5 v3_5 s0_5 H locs hP hD hS ls hl h
          rw [eK88] at h
          refine lv_aload_n hx hb dX3_letPass_88 rfl (lv_at hl 0 rfl) ?_
          refine va_get (D := D) (ci := 4) (v := .ref (h0 12)) (C := RX3) (T := TX3) (N := 7) hx hb hts iX3 hown hK hP 0 rfl rfl 2 (by decide) (hts _ qfl_X3_28) (fun _ h9 => h9) rfl dX3_letPass_89 ?_
          obtain ⟨q6, c6, h⟩ := x_call h
          refine xCall (w2 := BooW cA h0 ((Boos2 s0_5 q6))) (zRunV (n := 0) (As := []) (rest := []) ⟨hx, hb, hml, hown, hts⟩ (kX8_dropEnded l D cA ad (fun k => h0 (k + 12)) _ N s0_5.2.2.1 q6 c6) qco_X8_dropEnded qml_X3_110 qin_X8_dropEnded qse_X8_dropEnded qini_X8 (by decide +kernel) (by rw [← erm]; rfl) hN hE hS hA hK hP hD [12, 13, 14, 15, 16, 17, 18] rfl rfl (q0 := 0) rfl rfl rfl rfl rfl hl.1 rfl (lv_room (Nat.le_of_ble_eq_true rfl)) dX3_letPass_92 ⟨Nat.zero_le _, Nat.zero_le _⟩) hP hD hS hA [12, 13, 14, 15, 16, 17, 18] [0, 1, 2, 3, 4, 5, 6, 7, 8, 9, 10, 11, 19, 20, 21, 22, 23, 24] [0, 1, 2, 3, 4, 5, 6, 7, 8, 9, 10, 11, 18, 19, 20, 21, 22, 23, 24, 12, 13, 14, 15, 16, 17] rfl (wr := [(h0 0, .inr (4, [.ref (h0 1), .ref (h0 6), .ref (h0 12), .ref (h0 19), .ref (h0 22), .int (s0_5.2.2.2.2.2.1), .int (s0_5.2.2.2.2.2.2)])), (h0 1, .inr (2, [.ref (h0 2), .ref (h0 3), .ref (h0 4), .ref (h0 5), .int (s0_5.1.2.2.2.2)])), (h0 2, .inl (cA 1, 12, .inl (s0_5.1.1))), (h0 3, .inl (cA 0, 12, .inl (s0_5.1.2.1))), (h0 4, .inl (cA 2, 12, .inr (.inl (s0_5.1.2.2.1)))), (h0 5, .inl (cA 2, 12, .inr (.inl (s0_5.1.2.2.2.1)))), (h0 6, .inr (6, [.ref (h0 7), .ref (h0 8), .ref (h0 9), .ref (h0 10), .ref (h0 11), .int (s0_5.2.1.2.2.2.2.2)])), (h0 7, .inl (cA 0, 20, .inl (s0_5.2.1.1))), (h0 8, .inl (cA 0, 20, .inl (s0_5.2.1.2.1))), (h0 9, .inl (cA 2, 20, .inr (.inl (s0_5.2.1.2.2.1)))), (h0 10, .inl (cA 0, 20, .inl (s0_5.2.1.2.2.2.1))), (h0 11, .inl (cA 0, 20, .inl (s0_5.2.1.2.2.2.2.1))), (h0 19, .inr (10, [.ref (h0 20), .ref (h0 21), .int (s0_5.2.2.2.1.2.2)])), (h0 20, .inl (cA 0, 8, .inl (s0_5.2.2.2.1.1))), (h0 21, .inl (cA 0, 8, .inl (s0_5.2.2.2.1.2.1))), (h0 22, .inr (3, [.ref (h0 23), .ref (h0 24), .int (s0_5.2.2.2.2.1.2.2.1), .int (s0_5.2.2.2.2.1.2.2.2)])), (h0 23, .inl (cA 0, 10, .inl (s0_5.2.2.2.2.1.1))), (h0 24, .inl (cA 0, 10, .inl (s0_5.2.2.2.2.1.2.1)))]) rfl rfl rfl rfl rfl (fun H locs hP hD hS => ?_)
          obtain ⟨x7, ex7⟩ : ∃ y : Int32, y = v3_5 + (1) := ⟨_, rfl⟩
          have h := x_let h ex7
          refine lv_iinc (v := x7) (lv' := [(3, .int x7), (0, .ref (h0 0)), (1, .int v1_5), (2, .int v2_5)]) hx hb dX3_letPass_95 hl (k := 3) rfl (by rw [ex7]; rfl) (by decide) rfl (fun ls hl => ?_)
          refine lv_goto (tgt := 4) hx hb dX3_letPass_98 (by decide) ?_
          exact ih v1_5 v2_5 x7 ((Boos2 s0_5 q6)) _ _ hP hD hS _ (lv_sub hl [1, 2, 3, 0] rfl) h
        have hL22 : ∀ (n : Nat) (v1_8 : Int32) (v2_8 : Int32) (v3_8 : Int32) (v4_8 : Int32) (s0_8 : BooS) (H : Heap) (locs : List Loc), va_P D vwCl (BooW cA h0 s0_8) H → va_D A (BooW cA h0 s0_8) → va_S A s.heap H locs → ∀ ls : Array Slot, lv_has ls 5 [(0, .ref (h0 0)), (1, .int v1_8), (2, .int v2_8), (3, .int v3_8), (4, .int v4_8)] → fX3_letPass_L22 N K88 n v1_8 v2_8 v3_8 v4_8 s0_8 = some q → W p l e rm s m ([.ref (h0 0), .int a1] : List Value).toArray below meth c H locs 0 0 (MQ below (xQ D cA A (BooW cA h0 q.2) (some (.int q.1))) ([.ref (h0 0), .int a1] : List Value).toArray s 0 0 A) (F0 m 22 ls []) := by
          clear h hP hD hS hl
          intro n
          induction n with
          | zero => intro v1_8 v2_8 v3_8 v4_8 s0_8 H locs hP hD hS ls hl h; rw [fX3_letPass_L22] at h; cases h
          | succ n ih =>
            intro v1_8 v2_8 v3_8 v4_8 s0_8 H locs hP hD hS ls hl h
            rw [fX3_letPass_L22] at h
            refine lv_iload hx hb dX3_letPass_22 (lv_at hl 4 rfl) ?_
            refine lv_aload_n hx hb dX3_letPass_24 rfl (lv_at hl 0 rfl) ?_
            refine va_get (D := D) (ci := 4) (v := .ref (h0 12)) (C := RX3) (T := TX3) (N := 7) hx hb hts iX3 hown hK hP 0 rfl rfl 2 (by decide) (hts _ qfl_X3_28) (fun _ h9 => h9) rfl dX3_letPass_25 ?_
            refine va_getN (D := D) (ci := 8) (v := .int s0_8.2.2.1.2.2.2.2.2.2) (C := RX8) (T := TX8) (N := 7) hx hb hts iX8 hown hK hP 12 rfl rfl 6 (by decide) (hN.use qfn_X3_99) (fun _ h9 => h9) rfl dX3_letPass_28 ?_
            refine lv_icmp_ge (tgt := 88) hx hb dX3_letPass_31 (by decide) (fun c9 => ?_) (fun c9 => ?_)
            · have h := x_t h c9
              exact hJ_K88 v1_8 v2_8 v3_8 s0_8 _ _ hP hD hS _ (lv_sub hl [0, 1, 2, 3] rfl) h
            · have h := x_f h c9
              refine lv_aload_n hx hb dX3_letPass_34 rfl (lv_at hl 0 rfl) ?_
              refine va_get (D := D) (ci := 4) (v := .ref (h0 12)) (C := RX3) (T := TX3) (N := 7) hx hb hts iX3 hown hK hP 0 rfl rfl 2 (by decide) (hts _ qfl_X3_28) (fun _ h9 => h9) rfl dX3_letPass_35 ?_
              refine lv_iload hx hb dX3_letPass_38 (lv_at hl 4 rfl) ?_
              obtain ⟨q10, c10, h⟩ := x_call h
              refine xCall (w2 := BooW cA h0 ((Boos2 s0_8 q10.2))) (zRunV (n := 1) (As := [.int v4_8]) (rest := []) ⟨hx, hb, hml, hown, hts⟩ (kX8_comesDue l D cA ad (fun k => h0 (k + 12)) _ N v4_8 s0_8.2.2.1 q10 c10) qco_X8_comesDue qml_X3_102 qin_X8_comesDue qse_X8_comesDue qini_X8 (by decide +kernel) (by rw [← erm]; rfl) hN hE hS hA hK hP hD [12, 13, 14, 15, 16, 17, 18] rfl rfl (q0 := 0) rfl rfl rfl rfl rfl hl.1 rfl (lv_room (Nat.le_of_ble_eq_true rfl)) dX3_letPass_40 ⟨Nat.zero_le _, Nat.zero_le _⟩) hP hD hS hA [12, 13, 14, 15, 16, 17, 18] [0, 1, 2, 3, 4, 5, 6, 7, 8, 9, 10, 11, 19, 20, 21, 22, 23, 24] [0, 1, 2, 3, 4, 5, 6, 7, 8, 9, 10, 11, 18, 19, 20, 21, 22, 23, 24, 12, 13, 14, 15, 16, 17] rfl (wr := [(h0 0, .inr (4, [.ref (h0 1), .ref (h0 6), .ref (h0 12), .ref (h0 19), .ref (h0 22), .int (s0_8.2.2.2.2.2.1), .int (s0_8.2.2.2.2.2.2)])), (h0 1, .inr (2, [.ref (h0 2), .ref (h0 3), .ref (h0 4), .ref (h0 5), .int (s0_8.1.2.2.2.2)])), (h0 2, .inl (cA 1, 12, .inl (s0_8.1.1))), (h0 3, .inl (cA 0, 12, .inl (s0_8.1.2.1))), (h0 4, .inl (cA 2, 12, .inr (.inl (s0_8.1.2.2.1)))), (h0 5, .inl (cA 2, 12, .inr (.inl (s0_8.1.2.2.2.1)))), (h0 6, .inr (6, [.ref (h0 7), .ref (h0 8), .ref (h0 9), .ref (h0 10), .ref (h0 11), .int (s0_8.2.1.2.2.2.2.2)])), (h0 7, .inl (cA 0, 20, .inl (s0_8.2.1.1))), (h0 8, .inl (cA 0, 20, .inl (s0_8.2.1.2.1))), (h0 9, .inl (cA 2, 20, .inr (.inl (s0_8.2.1.2.2.1)))), (h0 10, .inl (cA 0, 20, .inl (s0_8.2.1.2.2.2.1))), (h0 11, .inl (cA 0, 20, .inl (s0_8.2.1.2.2.2.2.1))), (h0 19, .inr (10, [.ref (h0 20), .ref (h0 21), .int (s0_8.2.2.2.1.2.2)])), (h0 20, .inl (cA 0, 8, .inl (s0_8.2.2.2.1.1))), (h0 21, .inl (cA 0, 8, .inl (s0_8.2.2.2.1.2.1))), (h0 22, .inr (3, [.ref (h0 23), .ref (h0 24), .int (s0_8.2.2.2.2.1.2.2.1), .int (s0_8.2.2.2.2.1.2.2.2)])), (h0 23, .inl (cA 0, 10, .inl (s0_8.2.2.2.2.1.1))), (h0 24, .inl (cA 0, 10, .inl (s0_8.2.2.2.2.1.2.1)))]) rfl rfl rfl rfl rfl (fun H locs hP hD hS => ?_)
              obtain ⟨J82, eJ82, h⟩ := x_join h
              have hJ_J82 : ∀ (v1_11 : Int32) (v2_11 : Int32) (v3_11 : Int32) (v4_11 : Int32) (s0_11 : BooS) (H : Heap) (locs : List Loc), va_P D vwCl (BooW cA h0 s0_11) H → va_D A (BooW cA h0 s0_11) → va_S A s.heap H locs → ∀ ls : Array Slot, lv_has ls 5 [(0, .ref (h0 0)), (1, .int v1_11), (2, .int v2_11), (3, .int v3_11), (4, .int v4_11)] → J82 v1_11 v2_11 v3_11 v4_11 s0_11 = some q → W p l e rm s m ([.ref (h0 0), .int a1] : List Value).toArray below meth c H locs 0 0 (MQ below (xQ D cA A (BooW cA h0 q.2) (some (.int q.1))) ([.ref (h0 0), .int a1] : List Value).toArray s 0 0 A) (F0 m 82 ls []) := by
                clear h hP hD hS hl
                intro v1_11 v2_11 v3_11 v4_11 s0_11 H locs hP hD hS ls hl h
                rw [eJ82] at h
                obtain ⟨x12, ex12⟩ : ∃ y : Int32, y = v4_11 + (1) := ⟨_, rfl⟩
                have h := x_let h ex12
                refine lv_iinc (v := x12) (lv' := [(4, .int x12), (0, .ref (h0 0)), (1, .int v1_11), (2, .int v2_11), (3, .int v3_11)]) hx hb dX3_letPass_82 hl (k := 4) rfl (by rw [ex12]; rfl) (by decide) rfl (fun ls hl => ?_)
                refine lv_goto (tgt := 22) hx hb dX3_letPass_85 (by decide) ?_
                exact ih v1_11 v2_11 v3_11 x12 s0_11 _ _ hP hD hS _ (lv_sub hl [1, 2, 3, 4, 0] rfl) h
              refine lv_if_eq (tgt := 82) hx hb dX3_letPass_43 (by decide) (fun c13 => ?_) (fun c13 => ?_)
              · have h := x_t h c13
                exact hJ_J82 v1_8 v2_8 v3_8 v4_8 ((Boos2 s0_8 q10.2)) _ _ hP hD hS _ (lv_sub hl [0, 1, 2, 3, 4] rfl) h
              · have h := x_f h c13
                refine lv_aload_n hx hb dX3_letPass_46 rfl (lv_at hl 0 rfl) ?_
                refine lv_aload_n hx hb dX3_letPass_47 rfl (lv_at hl 0 rfl) ?_
                refine va_get (D := D) (ci := 4) (v := .ref (h0 12)) (C := RX3) (T := TX3) (N := 7) hx hb hts iX3 hown hK hP 0 rfl rfl 2 (by decide) (hts _ qfl_X3_28) (fun _ h9 => h9) rfl dX3_letPass_48 ?_
                refine lv_iload hx hb dX3_letPass_51 (lv_at hl 4 rfl) ?_
                obtain ⟨q14, c14, h⟩ := x_call h
                refine xCall (w2 := BooW cA h0 ((Boos2 s0_8 q10.2))) (zRunV (n := 1) (As := [.int v4_8]) (rest := [.ref (h0 0)]) ⟨hx, hb, hml, hown, hts⟩ (kX8_debitedBy l D cA ad (fun k => h0 (k + 12)) _ N v4_8 q10.2 q14 c14) qco_X8_debitedBy qml_X3_106 qin_X8_debitedBy qse_X8_debitedBy qini_X8 (by decide +kernel) (by rw [← erm]; rfl) hN hE hS hA hK hP hD [12, 13, 14, 15, 16, 17, 18] rfl rfl (q0 := 0) rfl rfl rfl rfl rfl hl.1 rfl (lv_room (Nat.le_of_ble_eq_true rfl)) dX3_letPass_53 ⟨Nat.zero_le _, Nat.zero_le _⟩) hP hD hS hA [12, 13, 14, 15, 16, 17, 18] [0, 1, 2, 3, 4, 5, 6, 7, 8, 9, 10, 11, 19, 20, 21, 22, 23, 24] [0, 1, 2, 3, 4, 5, 6, 7, 8, 9, 10, 11, 18, 19, 20, 21, 22, 23, 24, 12, 13, 14, 15, 16, 17] rfl (wr := [(h0 0, .inr (4, [.ref (h0 1), .ref (h0 6), .ref (h0 12), .ref (h0 19), .ref (h0 22), .int (s0_8.2.2.2.2.2.1), .int (s0_8.2.2.2.2.2.2)])), (h0 1, .inr (2, [.ref (h0 2), .ref (h0 3), .ref (h0 4), .ref (h0 5), .int (s0_8.1.2.2.2.2)])), (h0 2, .inl (cA 1, 12, .inl (s0_8.1.1))), (h0 3, .inl (cA 0, 12, .inl (s0_8.1.2.1))), (h0 4, .inl (cA 2, 12, .inr (.inl (s0_8.1.2.2.1)))), (h0 5, .inl (cA 2, 12, .inr (.inl (s0_8.1.2.2.2.1)))), (h0 6, .inr (6, [.ref (h0 7), .ref (h0 8), .ref (h0 9), .ref (h0 10), .ref (h0 11), .int (s0_8.2.1.2.2.2.2.2)])), (h0 7, .inl (cA 0, 20, .inl (s0_8.2.1.1))), (h0 8, .inl (cA 0, 20, .inl (s0_8.2.1.2.1))), (h0 9, .inl (cA 2, 20, .inr (.inl (s0_8.2.1.2.2.1)))), (h0 10, .inl (cA 0, 20, .inl (s0_8.2.1.2.2.2.1))), (h0 11, .inl (cA 0, 20, .inl (s0_8.2.1.2.2.2.2.1))), (h0 19, .inr (10, [.ref (h0 20), .ref (h0 21), .int (s0_8.2.2.2.1.2.2)])), (h0 20, .inl (cA 0, 8, .inl (s0_8.2.2.2.1.1))), (h0 21, .inl (cA 0, 8, .inl (s0_8.2.2.2.1.2.1))), (h0 22, .inr (3, [.ref (h0 23), .ref (h0 24), .int (s0_8.2.2.2.2.1.2.2.1), .int (s0_8.2.2.2.2.1.2.2.2)])), (h0 23, .inl (cA 0, 10, .inl (s0_8.2.2.2.2.1.1))), (h0 24, .inl (cA 0, 10, .inl (s0_8.2.2.2.2.1.2.1)))]) rfl rfl rfl rfl rfl (fun H locs hP hD hS => ?_)
                refine lv_aload_n hx hb dX3_letPass_56 rfl (lv_at hl 0 rfl) ?_
                refine va_get (D := D) (ci := 4) (v := .ref (h0 12)) (C := RX3) (T := TX3) (N := 7) hx hb hts iX3 hown hK hP 0 rfl rfl 2 (by decide) (hts _ qfl_X3_28) (fun _ h9 => h9) rfl dX3_letPass_57 ?_
                refine lv_iload hx hb dX3_letPass_60 (lv_at hl 4 rfl) ?_
                obtain ⟨q15, c15, h⟩ := x_call h
                refine xCall (w2 := BooW cA h0 ((Boos2 s0_8 q10.2))) (zRunV (n := 1) (As := [.int v4_8]) (rest := [.int q14, .ref (h0 0)]) ⟨hx, hb, hml, hown, hts⟩ (kX8_creditedBy l D cA ad (fun k => h0 (k + 12)) _ N v4_8 q10.2 q15 c15) qco_X8_creditedBy qml_X3_107 qin_X8_creditedBy qse_X8_creditedBy qini_X8 (by decide +kernel) (by rw [← erm]; rfl) hN hE hS hA hK hP hD [12, 13, 14, 15, 16, 17, 18] rfl rfl (q0 := 0) rfl rfl rfl rfl rfl hl.1 rfl (lv_room (Nat.le_of_ble_eq_true rfl)) dX3_letPass_62 ⟨Nat.zero_le _, Nat.zero_le _⟩) hP hD hS hA [12, 13, 14, 15, 16, 17, 18] [0, 1, 2, 3, 4, 5, 6, 7, 8, 9, 10, 11, 19, 20, 21, 22, 23, 24] [0, 1, 2, 3, 4, 5, 6, 7, 8, 9, 10, 11, 18, 19, 20, 21, 22, 23, 24, 12, 13, 14, 15, 16, 17] rfl (wr := [(h0 0, .inr (4, [.ref (h0 1), .ref (h0 6), .ref (h0 12), .ref (h0 19), .ref (h0 22), .int (s0_8.2.2.2.2.2.1), .int (s0_8.2.2.2.2.2.2)])), (h0 1, .inr (2, [.ref (h0 2), .ref (h0 3), .ref (h0 4), .ref (h0 5), .int (s0_8.1.2.2.2.2)])), (h0 2, .inl (cA 1, 12, .inl (s0_8.1.1))), (h0 3, .inl (cA 0, 12, .inl (s0_8.1.2.1))), (h0 4, .inl (cA 2, 12, .inr (.inl (s0_8.1.2.2.1)))), (h0 5, .inl (cA 2, 12, .inr (.inl (s0_8.1.2.2.2.1)))), (h0 6, .inr (6, [.ref (h0 7), .ref (h0 8), .ref (h0 9), .ref (h0 10), .ref (h0 11), .int (s0_8.2.1.2.2.2.2.2)])), (h0 7, .inl (cA 0, 20, .inl (s0_8.2.1.1))), (h0 8, .inl (cA 0, 20, .inl (s0_8.2.1.2.1))), (h0 9, .inl (cA 2, 20, .inr (.inl (s0_8.2.1.2.2.1)))), (h0 10, .inl (cA 0, 20, .inl (s0_8.2.1.2.2.2.1))), (h0 11, .inl (cA 0, 20, .inl (s0_8.2.1.2.2.2.2.1))), (h0 19, .inr (10, [.ref (h0 20), .ref (h0 21), .int (s0_8.2.2.2.1.2.2)])), (h0 20, .inl (cA 0, 8, .inl (s0_8.2.2.2.1.1))), (h0 21, .inl (cA 0, 8, .inl (s0_8.2.2.2.1.2.1))), (h0 22, .inr (3, [.ref (h0 23), .ref (h0 24), .int (s0_8.2.2.2.2.1.2.2.1), .int (s0_8.2.2.2.2.1.2.2.2)])), (h0 23, .inl (cA 0, 10, .inl (s0_8.2.2.2.2.1.1))), (h0 24, .inl (cA 0, 10, .inl (s0_8.2.2.2.2.1.2.1)))]) rfl rfl rfl rfl rfl (fun H locs hP hD hS => ?_)
                refine lv_aload_n hx hb dX3_letPass_65 rfl (lv_at hl 0 rfl) ?_
                refine va_get (D := D) (ci := 4) (v := .ref (h0 12)) (C := RX3) (T := TX3) (N := 7) hx hb hts iX3 hown hK hP 0 rfl rfl 2 (by decide) (hts _ qfl_X3_28) (fun _ h9 => h9) rfl dX3_letPass_66 ?_
                refine lv_iload hx hb dX3_letPass_69 (lv_at hl 4 rfl) ?_
                obtain ⟨q16, c16, h⟩ := x_call h
                refine xCall (w2 := BooW cA h0 ((Boos2 s0_8 q10.2))) (zRunV (n := 1) (As := [.int v4_8]) (rest := [.int q15, .int q14, .ref (h0 0)]) ⟨hx, hb, hml, hown, hts⟩ (kX8_amountIn l D cA ad (fun k => h0 (k + 12)) _ N v4_8 q10.2 q16 c16) qco_X8_amountIn qml_X3_108 qin_X8_amountIn qse_X8_amountIn qini_X8 (by decide +kernel) (by rw [← erm]; rfl) hN hE hS hA hK hP hD [12, 13, 14, 15, 16, 17, 18] rfl rfl (q0 := 0) rfl rfl rfl rfl rfl hl.1 rfl (lv_room (Nat.le_of_ble_eq_true rfl)) dX3_letPass_71 ⟨Nat.zero_le _, Nat.zero_le _⟩) hP hD hS hA [12, 13, 14, 15, 16, 17, 18] [0, 1, 2, 3, 4, 5, 6, 7, 8, 9, 10, 11, 19, 20, 21, 22, 23, 24] [0, 1, 2, 3, 4, 5, 6, 7, 8, 9, 10, 11, 18, 19, 20, 21, 22, 23, 24, 12, 13, 14, 15, 16, 17] rfl (wr := [(h0 0, .inr (4, [.ref (h0 1), .ref (h0 6), .ref (h0 12), .ref (h0 19), .ref (h0 22), .int (s0_8.2.2.2.2.2.1), .int (s0_8.2.2.2.2.2.2)])), (h0 1, .inr (2, [.ref (h0 2), .ref (h0 3), .ref (h0 4), .ref (h0 5), .int (s0_8.1.2.2.2.2)])), (h0 2, .inl (cA 1, 12, .inl (s0_8.1.1))), (h0 3, .inl (cA 0, 12, .inl (s0_8.1.2.1))), (h0 4, .inl (cA 2, 12, .inr (.inl (s0_8.1.2.2.1)))), (h0 5, .inl (cA 2, 12, .inr (.inl (s0_8.1.2.2.2.1)))), (h0 6, .inr (6, [.ref (h0 7), .ref (h0 8), .ref (h0 9), .ref (h0 10), .ref (h0 11), .int (s0_8.2.1.2.2.2.2.2)])), (h0 7, .inl (cA 0, 20, .inl (s0_8.2.1.1))), (h0 8, .inl (cA 0, 20, .inl (s0_8.2.1.2.1))), (h0 9, .inl (cA 2, 20, .inr (.inl (s0_8.2.1.2.2.1)))), (h0 10, .inl (cA 0, 20, .inl (s0_8.2.1.2.2.2.1))), (h0 11, .inl (cA 0, 20, .inl (s0_8.2.1.2.2.2.2.1))), (h0 19, .inr (10, [.ref (h0 20), .ref (h0 21), .int (s0_8.2.2.2.1.2.2)])), (h0 20, .inl (cA 0, 8, .inl (s0_8.2.2.2.1.1))), (h0 21, .inl (cA 0, 8, .inl (s0_8.2.2.2.1.2.1))), (h0 22, .inr (3, [.ref (h0 23), .ref (h0 24), .int (s0_8.2.2.2.2.1.2.2.1), .int (s0_8.2.2.2.2.1.2.2.2)])), (h0 23, .inl (cA 0, 10, .inl (s0_8.2.2.2.2.1.1))), (h0 24, .inl (cA 0, 10, .inl (s0_8.2.2.2.2.1.2.1)))]) rfl rfl rfl rfl rfl (fun H locs hP hD hS => ?_)
                refine lv_i2l hx hb dX3_letPass_74 rfl ?_
                obtain ⟨q17, c17, h⟩ := x_call h
                refine xCall (w2 := BooW cA h0 q17.2) (zRunV (n := 3) (As := [.int q14, .int q15, .long (q16.toInt64)]) (rest := []) ⟨hx, hb, hml, hown, hts⟩ (kX3_makeEntry l D cA ad h0 _ N q14 q15 (q16.toInt64) ((Boos2 s0_8 q10.2)) q17 c17) qco_X3_makeEntry qml_X3_92 qin_X3_makeEntry qse_X3_makeEntry qini_X3 (by decide +kernel) (by rw [← erm]; rfl) hN hE hS hA hK hP hD [0, 1, 2, 3, 4, 5, 6, 7, 8, 9, 10, 11, 12, 13, 14, 15, 16, 17, 18, 19, 20, 21, 22, 23, 24] rfl rfl (q0 := 0) rfl rfl rfl rfl rfl hl.1 rfl (lv_room (Nat.le_of_ble_eq_true rfl)) dX3_letPass_75 ⟨Nat.zero_le _, Nat.zero_le _⟩) hP hD hS hA [0, 1, 2, 3, 4, 5, 6, 7, 8, 9, 10, 11, 12, 13, 14, 15, 16, 17, 18, 19, 20, 21, 22, 23, 24] [] [0, 1, 2, 3, 4, 5, 6, 7, 8, 9, 10, 11, 12, 13, 14, 15, 16, 17, 18, 19, 20, 21, 22, 23, 24] rfl (wr := []) rfl rfl rfl rfl rfl (fun H locs hP hD hS => ?_)
                refine lv_pop hx hb dX3_letPass_78 rfl ?_
                obtain ⟨x18, ex18⟩ : ∃ y : Int32, y = v2_8 + (1) := ⟨_, rfl⟩
                have h := x_let h ex18
                refine lv_iinc (v := x18) (lv' := [(2, .int x18), (0, .ref (h0 0)), (1, .int v1_8), (3, .int v3_8), (4, .int v4_8)]) hx hb dX3_letPass_79 hl (k := 2) rfl (by rw [ex18]; rfl) (by decide) rfl (fun ls hl => ?_)
                exact hJ_J82 v1_8 x18 v3_8 v4_8 q17.2 _ _ hP hD hS _ (lv_sub hl [1, 2, 0, 3, 4] rfl) h
        exact hL22 N v1_2 v2_2 v3_2 0 ((Boos5 s0_2 x4)) _ _ hP hD hS _ (lv_sub hl [1, 2, 3, 4, 0] rfl) h
  exact hL4 N a1 0 0 s0 _ _ hP hD hS _ (lv_sub hl [2, 3, 1, 0] rfl) h
def fX3_faultOfBuying (N : Nat) (a1 : Int32) (a2 : Int32) (s0 : BooS) : Option (Nat) :=
  xcall (fX11_isTrade N a1 a2) fun q1 =>
  if q1 = 0 then
    some 3
  else
    if s0.2.2.2.1.2.2 < 8 then
      xcall (fX1_balanceAt N 0 s0.1) fun q4 =>
      xjoin (fun (t0_5 : Nat) =>
          some t0_5
        ) fun J53 =>
      if 0 ≤ (lg_cmp q4 (Int32.toInt64 (a1 * a2))) then
        J53 0
      else
        J53 5
    else
      some 4
set_option maxRecDepth 100000 in
set_option maxHeartbeats 4000000 in
theorem kX3_faultOfBuying (l : Launch) (D : va_G) (cA : Nat → ClassId) (ad : Nat → Nat) (h0 : Nat → Nat) (sz N : Nat) (a1 : Int32) (a2 : Int32) (s0 : BooS) (q : Nat) (h : fX3_faultOfBuying N a1 a2 s0 = some q) : zM l yX3_faultOfBuying cX3_faultOfBuying 3 (some (.object "TheatreLedger$Fault")) ({ frames := 2, cells := 0, slots := 0, locals := 43 }) D cA ad (BooW cA h0 s0) sz [.ref (h0 0), .int a1, .int a2] (some (.ref (ad q))) (BooW cA h0 s0) := by
  generalize erm : ({ frames := 2, cells := 0, slots := 0, locals := 43 } : Room) = rm
  refine zMet (by decide) (Nat.le_of_ble_eq_true rfl) ?_
  intro p e s m below meth c hx hb hr hlocks hml hts hown hin hK hP A eA hD hS hA hsz hN hE ls hl
  have hl : lv_has ls 3 [(0, .ref (h0 0)), (1, .int a1), (2, .int a2)] := hl
  clear eA
  rw [fX3_faultOfBuying] at h
  refine lv_iload_n hx hb dX3_faultOfBuying_0 rfl (lv_at hl 1 rfl) ?_
  refine lv_iload_n hx hb dX3_faultOfBuying_1 rfl (lv_at hl 2 rfl) ?_
  obtain ⟨q1, c1, h⟩ := x_call h
  refine xCall (w2 := BooW cA h0 s0) (zRunS (n := 2) (As := [.int a1, .int a2]) (rest := []) ⟨hx, hb, hml, hown, hts⟩ (kX11_isTrade l D cA ad  _ N a1 a2 q1 c1) qco_X11_isTrade qml_X3_113 qst_X11_isTrade qini_X11 (by decide +kernel) (by rw [← erm]; rfl) hN hE hS hA hK hP hD [] rfl rfl rfl rfl hl.1 rfl (lv_room (Nat.le_of_ble_eq_true rfl)) dX3_faultOfBuying_2 ⟨Nat.zero_le _, Nat.zero_le _⟩) hP hD hS hA [] [0, 1, 2, 3, 4, 5, 6, 7, 8, 9, 10, 11, 12, 13, 14, 15, 16, 17, 18, 19, 20, 21, 22, 23, 24] [0, 1, 2, 3, 4, 5, 6, 7, 8, 9, 10, 11, 12, 13, 14, 15, 16, 17, 18, 19, 20, 21, 22, 23, 24] rfl (wr := [(h0 0, .inr (4, [.ref (h0 1), .ref (h0 6), .ref (h0 12), .ref (h0 19), .ref (h0 22), .int (s0.2.2.2.2.2.1), .int (s0.2.2.2.2.2.2)])), (h0 1, .inr (2, [.ref (h0 2), .ref (h0 3), .ref (h0 4), .ref (h0 5), .int (s0.1.2.2.2.2)])), (h0 2, .inl (cA 1, 12, .inl (s0.1.1))), (h0 3, .inl (cA 0, 12, .inl (s0.1.2.1))), (h0 4, .inl (cA 2, 12, .inr (.inl (s0.1.2.2.1)))), (h0 5, .inl (cA 2, 12, .inr (.inl (s0.1.2.2.2.1)))), (h0 6, .inr (6, [.ref (h0 7), .ref (h0 8), .ref (h0 9), .ref (h0 10), .ref (h0 11), .int (s0.2.1.2.2.2.2.2)])), (h0 7, .inl (cA 0, 20, .inl (s0.2.1.1))), (h0 8, .inl (cA 0, 20, .inl (s0.2.1.2.1))), (h0 9, .inl (cA 2, 20, .inr (.inl (s0.2.1.2.2.1)))), (h0 10, .inl (cA 0, 20, .inl (s0.2.1.2.2.2.1))), (h0 11, .inl (cA 0, 20, .inl (s0.2.1.2.2.2.2.1))), (h0 12, .inr (8, [.ref (h0 13), .ref (h0 14), .ref (h0 15), .ref (h0 16), .ref (h0 17), .ref (h0 18), .int (s0.2.2.1.2.2.2.2.2.2)])), (h0 13, .inl (cA 0, 6, .inl (s0.2.2.1.1))), (h0 14, .inl (cA 0, 6, .inl (s0.2.2.1.2.1))), (h0 15, .inl (cA 0, 6, .inl (s0.2.2.1.2.2.1))), (h0 16, .inl (cA 0, 6, .inl (s0.2.2.1.2.2.2.1))), (h0 17, .inl (cA 0, 6, .inl (s0.2.2.1.2.2.2.2.1))), (h0 18, .inl (cA 0, 6, .inl (s0.2.2.1.2.2.2.2.2.1))), (h0 19, .inr (10, [.ref (h0 20), .ref (h0 21), .int (s0.2.2.2.1.2.2)])), (h0 20, .inl (cA 0, 8, .inl (s0.2.2.2.1.1))), (h0 21, .inl (cA 0, 8, .inl (s0.2.2.2.1.2.1))), (h0 22, .inr (3, [.ref (h0 23), .ref (h0 24), .int (s0.2.2.2.2.1.2.2.1), .int (s0.2.2.2.2.1.2.2.2)])), (h0 23, .inl (cA 0, 10, .inl (s0.2.2.2.2.1.1))), (h0 24, .inl (cA 0, 10, .inl (s0.2.2.2.2.1.2.1)))]) rfl rfl rfl rfl rfl (fun H locs hP hD hS => ?_)
  refine lv_if_ne (tgt := 12) hx hb dX3_faultOfBuying_5 (by decide) (fun c2 => ?_) (fun c2 => ?_)
  · have h := x_f h c2
    refine lv_aload_n hx hb dX3_faultOfBuying_12 rfl (lv_at hl 0 rfl) ?_
    refine va_get (D := D) (ci := 4) (v := .ref (h0 19)) (C := RX3) (T := TX3) (N := 7) hx hb hts iX3 hown hK hP 0 rfl rfl 3 (by decide) (hts _ qfl_X3_35) (fun _ h9 => h9) rfl dX3_faultOfBuying_13 ?_
    refine va_getN (D := D) (ci := 10) (v := .int s0.2.2.2.1.2.2) (C := RX11) (T := TX11) (N := 3) hx hb hts iX11 hown hK hP 19 rfl rfl 2 (by decide) (hN.use qfn_X3_123) (fun _ h9 => h9) rfl dX3_faultOfBuying_16 ?_
    refine lv_bipush (v := 8) hx hb dX3_faultOfBuying_19 (by decide) ?_
    refine lv_icmp_lt (tgt := 28) hx hb dX3_faultOfBuying_21 (by decide) (fun c3 => ?_) (fun c3 => ?_)
    · have h := x_t h c3
      refine lv_aload_n hx hb dX3_faultOfBuying_28 rfl (lv_at hl 0 rfl) ?_
      refine va_get (D := D) (ci := 4) (v := .ref (h0 1)) (C := RX3) (T := TX3) (N := 7) hx hb hts iX3 hown hK hP 0 rfl rfl 0 (by decide) (hts _ qfl_X3_12) (fun _ h9 => h9) rfl dX3_faultOfBuying_29 ?_
      refine lv_iconst (v := 0) hx hb dX3_faultOfBuying_32 (by decide) ?_
      obtain ⟨q4, c4, h⟩ := x_call h
      refine xCall (w2 := BooW cA h0 s0) (zRunV (n := 1) (As := [.int 0]) (rest := []) ⟨hx, hb, hml, hown, hts⟩ (kX1_balanceAt l D cA ad (fun k => h0 (k + 1)) _ N 0 s0.1 q4 c4) qco_X1_balanceAt qml_X3_127 qin_X1_balanceAt qse_X1_balanceAt qini_X1 (by decide +kernel) (by rw [← erm]; rfl) hN hE hS hA hK hP hD [1, 2, 3, 4, 5] rfl rfl (q0 := 0) rfl rfl rfl rfl rfl hl.1 rfl (lv_room (Nat.le_of_ble_eq_true rfl)) dX3_faultOfBuying_33 ⟨Nat.zero_le _, Nat.zero_le _⟩) hP hD hS hA [1, 2, 3, 4, 5] [0, 6, 7, 8, 9, 10, 11, 12, 13, 14, 15, 16, 17, 18, 19, 20, 21, 22, 23, 24] [0, 20, 21, 22, 23, 24, 1, 2, 3, 4, 5, 6, 7, 8, 9, 10, 11, 12, 13, 14, 15, 16, 17, 18, 19] rfl (wr := [(h0 0, .inr (4, [.ref (h0 1), .ref (h0 6), .ref (h0 12), .ref (h0 19), .ref (h0 22), .int (s0.2.2.2.2.2.1), .int (s0.2.2.2.2.2.2)])), (h0 6, .inr (6, [.ref (h0 7), .ref (h0 8), .ref (h0 9), .ref (h0 10), .ref (h0 11), .int (s0.2.1.2.2.2.2.2)])), (h0 7, .inl (cA 0, 20, .inl (s0.2.1.1))), (h0 8, .inl (cA 0, 20, .inl (s0.2.1.2.1))), (h0 9, .inl (cA 2, 20, .inr (.inl (s0.2.1.2.2.1)))), (h0 10, .inl (cA 0, 20, .inl (s0.2.1.2.2.2.1))), (h0 11, .inl (cA 0, 20, .inl (s0.2.1.2.2.2.2.1))), (h0 12, .inr (8, [.ref (h0 13), .ref (h0 14), .ref (h0 15), .ref (h0 16), .ref (h0 17), .ref (h0 18), .int (s0.2.2.1.2.2.2.2.2.2)])), (h0 13, .inl (cA 0, 6, .inl (s0.2.2.1.1))), (h0 14, .inl (cA 0, 6, .inl (s0.2.2.1.2.1))), (h0 15, .inl (cA 0, 6, .inl (s0.2.2.1.2.2.1))), (h0 16, .inl (cA 0, 6, .inl (s0.2.2.1.2.2.2.1))), (h0 17, .inl (cA 0, 6, .inl (s0.2.2.1.2.2.2.2.1))), (h0 18, .inl (cA 0, 6, .inl (s0.2.2.1.2.2.2.2.2.1))), (h0 19, .inr (10, [.ref (h0 20), .ref (h0 21), .int (s0.2.2.2.1.2.2)])), (h0 20, .inl (cA 0, 8, .inl (s0.2.2.2.1.1))), (h0 21, .inl (cA 0, 8, .inl (s0.2.2.2.1.2.1))), (h0 22, .inr (3, [.ref (h0 23), .ref (h0 24), .int (s0.2.2.2.2.1.2.2.1), .int (s0.2.2.2.2.1.2.2.2)])), (h0 23, .inl (cA 0, 10, .inl (s0.2.2.2.2.1.1))), (h0 24, .inl (cA 0, 10, .inl (s0.2.2.2.2.1.2.1)))]) rfl rfl rfl rfl rfl (fun H locs hP hD hS => ?_)
      refine lv_iload_n hx hb dX3_faultOfBuying_36 rfl (lv_at hl 1 rfl) ?_
      refine lv_iload_n hx hb dX3_faultOfBuying_37 rfl (lv_at hl 2 rfl) ?_
      refine lv_imul hx hb dX3_faultOfBuying_38 ?_
      refine lv_i2l hx hb dX3_faultOfBuying_39 rfl ?_
      refine W.lcmp hx hb dX3_faultOfBuying_40 ?_
      obtain ⟨J53, eJ53, h⟩ := x_join h
      have hJ_J53 : ∀ (t0_5 : Nat) (H : Heap) (locs : List Loc), va_P D vwCl (BooW cA h0 s0) H → va_D A (BooW cA h0 s0) → va_S A s.heap H locs → ∀ ls : Array Slot, lv_has ls 3 [] → J53 t0_5 = some q → W p l e rm s m ([.ref (h0 0), .int a1, .int a2] : List Value).toArray below meth c H locs 0 0 (MQ below (xQ D cA A (BooW cA h0 s0) (some (.ref (ad q)))) ([.ref (h0 0), .int a1, .int a2] : List Value).toArray s 0 0 A) (F0 m 53 ls [.ref (ad t0_5)]) := by
        clear h hP hD hS hl
        intro t0_5 H locs hP hD hS ls hl h
        rw [eJ53] at h
        have h := Option.some.inj h
        subst h
        exact zAret (a := ad t0_5) hx hb hr hlocks hP hK hD hS dX3_faultOfBuying_53
      refine lv_if_ge (tgt := 50) hx hb dX3_faultOfBuying_41 (by decide) (fun c6 => ?_) (fun c6 => ?_)
      · have h := x_t h c6
        refine va_gets hx hb (xE.f0 hE) hS hown (hts _ qfl_X3_133) (fun _ h9 => h9) dX3_faultOfBuying_50 ?_
        exact hJ_J53 0 _ _ hP hD hS _ (lv_sub hl [] rfl) h
      · have h := x_f h c6
        refine va_gets hx hb (xE.f5 hE) hS hown (hts _ qfl_X3_130) (fun _ h9 => h9) dX3_faultOfBuying_44 ?_
        refine lv_goto (tgt := 53) hx hb dX3_faultOfBuying_47 (by decide) ?_
        exact hJ_J53 5 _ _ hP hD hS _ (lv_sub hl [] rfl) h
    · have h := x_f h c3
      refine va_gets hx hb (xE.f4 hE) hS hown (hts _ qfl_X3_124) (fun _ h9 => h9) dX3_faultOfBuying_24 ?_
      have h := Option.some.inj h
      subst h
      exact zAret (a := ad 4) hx hb hr hlocks hP hK hD hS dX3_faultOfBuying_27
  · have h := x_t h c2
    refine va_gets hx hb (xE.f3 hE) hS hown (hts _ qfl_X3_117) (fun _ h9 => h9) dX3_faultOfBuying_8 ?_
    have h := Option.some.inj h
    subst h
    exact zAret (a := ad 3) hx hb hr hlocks hP hK hD hS dX3_faultOfBuying_11
def fX3_buyLot (N : Nat) (a1 : Int32) (a2 : Int32) (s0 : BooS) : Option (Int32 × BooS) :=
  xlet (a1 * a2) fun x1 =>
  xcall (fX3_makeEntry N 1 0 (x1.toInt64) s0) fun q2 =>
  xcall (fX11_add N a1 a2 q2.2.2.2.2.1) fun q3 =>
  some (x1, (Boos3 q2.2 q3))
set_option maxRecDepth 100000 in
set_option maxHeartbeats 4000000 in
theorem kX3_buyLot (l : Launch) (D : va_G) (cA : Nat → ClassId) (ad : Nat → Nat) (h0 : Nat → Nat) (sz N : Nat) (a1 : Int32) (a2 : Int32) (s0 : BooS) (q : Int32 × BooS) (h : fX3_buyLot N a1 a2 s0 = some q) : zM l yX3_buyLot cX3_buyLot 4 (some .int) ({ frames := 3, cells := 0, slots := 0, locals := 71 }) D cA ad (BooW cA h0 s0) sz [.ref (h0 0), .int a1, .int a2] (some (.int q.1)) (BooW cA h0 q.2) := by
  generalize erm : ({ frames := 3, cells := 0, slots := 0, locals := 71 } : Room) = rm
  refine zMet (by decide) (Nat.le_of_ble_eq_true rfl) ?_
  intro p e s m below meth c hx hb hr hlocks hml hts hown hin hK hP A eA hD hS hA hsz hN hE ls hl
  have hl : lv_has ls 4 [(0, .ref (h0 0)), (1, .int a1), (2, .int a2)] := hl
  clear eA
  rw [fX3_buyLot] at h
  refine lv_iload_n hx hb dX3_buyLot_0 rfl (lv_at hl 1 rfl) ?_
  refine lv_iload_n hx hb dX3_buyLot_1 rfl (lv_at hl 2 rfl) ?_
  refine lv_imul hx hb dX3_buyLot_2 ?_
  refine lv_topi (fun x1 ex1 => ?_)
  have h := x_let h ex1
  refine lv_istore_n (lv' := [(3, .int x1), (0, .ref (h0 0)), (1, .int a1), (2, .int a2)]) hx hb dX3_buyLot_3 rfl hl (by decide) rfl (fun ls hl => ?_)
  refine lv_aload_n hx hb dX3_buyLot_4 rfl (lv_at hl 1 rfl) ?_
  refine lv_iconst (v := 1) hx hb dX3_buyLot_5 (by decide) ?_
  refine lv_iconst (v := 0) hx hb dX3_buyLot_6 (by decide) ?_
  refine lv_iload_n hx hb dX3_buyLot_7 rfl (lv_at hl 0 rfl) ?_
  refine lv_i2l hx hb dX3_buyLot_8 rfl ?_
  obtain ⟨q2, c2, h⟩ := x_call h
  refine xCall (w2 := BooW cA h0 q2.2) (zRunV (n := 3) (As := [.int 1, .int 0, .long (x1.toInt64)]) (rest := []) ⟨hx, hb, hml, hown, hts⟩ (kX3_makeEntry l D cA ad h0 _ N 1 0 (x1.toInt64) s0 q2 c2) qco_X3_makeEntry qml_X3_92 qin_X3_makeEntry qse_X3_makeEntry qini_X3 (by decide +kernel) (by rw [← erm]; rfl) hN hE hS hA hK hP hD [0, 1, 2, 3, 4, 5, 6, 7, 8, 9, 10, 11, 12, 13, 14, 15, 16, 17, 18, 19, 20, 21, 22, 23, 24] rfl rfl (q0 := 0) rfl rfl rfl rfl rfl hl.1 rfl (lv_room (Nat.le_of_ble_eq_true rfl)) dX3_buyLot_9 ⟨Nat.zero_le _, Nat.zero_le _⟩) hP hD hS hA [0, 1, 2, 3, 4, 5, 6, 7, 8, 9, 10, 11, 12, 13, 14, 15, 16, 17, 18, 19, 20, 21, 22, 23, 24] [] [0, 1, 2, 3, 4, 5, 6, 7, 8, 9, 10, 11, 12, 13, 14, 15, 16, 17, 18, 19, 20, 21, 22, 23, 24] rfl (wr := []) rfl rfl rfl rfl rfl (fun H locs hP hD hS => ?_)
  refine lv_pop hx hb dX3_buyLot_12 rfl ?_
  refine lv_aload_n hx hb dX3_buyLot_13 rfl (lv_at hl 1 rfl) ?_
  refine va_get (D := D) (ci := 4) (v := .ref (h0 19)) (C := RX3) (T := TX3) (N := 7) hx hb hts iX3 hown hK hP 0 rfl rfl 3 (by decide) (hts _ qfl_X3_35) (fun _ h9 => h9) rfl dX3_buyLot_14 ?_
  refine lv_iload_n hx hb dX3_buyLot_17 rfl (lv_at hl 2 rfl) ?_
  refine lv_iload_n hx hb dX3_buyLot_18 rfl (lv_at hl 3 rfl) ?_
  obtain ⟨q3, c3, h⟩ := x_call h
  refine xCall (w2 := BooW cA h0 ((Boos3 q2.2 q3))) (zRunV (n := 2) (As := [.int a1, .int a2]) (rest := []) ⟨hx, hb, hml, hown, hts⟩ (kX11_add l D cA ad (fun k => h0 (k + 19)) _ N a1 a2 q2.2.2.2.2.1 q3 c3) qco_X11_add qml_X3_136 qin_X11_add qse_X11_add qini_X11 (by decide +kernel) (by rw [← erm]; rfl) hN hE hS hA hK hP hD [19, 20, 21] rfl rfl (q0 := 0) rfl rfl rfl rfl rfl hl.1 rfl (lv_room (Nat.le_of_ble_eq_true rfl)) dX3_buyLot_19 ⟨Nat.zero_le _, Nat.zero_le _⟩) hP hD hS hA [19, 20, 21] [0, 1, 2, 3, 4, 5, 6, 7, 8, 9, 10, 11, 12, 13, 14, 15, 16, 17, 18, 22, 23, 24] [0, 1, 2, 3, 4, 5, 6, 7, 8, 9, 10, 11, 12, 13, 14, 15, 16, 17, 18, 22, 23, 24, 19, 20, 21] rfl (wr := [(h0 0, .inr (4, [.ref (h0 1), .ref (h0 6), .ref (h0 12), .ref (h0 19), .ref (h0 22), .int (q2.2.2.2.2.2.2.1), .int (q2.2.2.2.2.2.2.2)])), (h0 1, .inr (2, [.ref (h0 2), .ref (h0 3), .ref (h0 4), .ref (h0 5), .int (q2.2.1.2.2.2.2)])), (h0 2, .inl (cA 1, 12, .inl (q2.2.1.1))), (h0 3, .inl (cA 0, 12, .inl (q2.2.1.2.1))), (h0 4, .inl (cA 2, 12, .inr (.inl (q2.2.1.2.2.1)))), (h0 5, .inl (cA 2, 12, .inr (.inl (q2.2.1.2.2.2.1)))), (h0 6, .inr (6, [.ref (h0 7), .ref (h0 8), .ref (h0 9), .ref (h0 10), .ref (h0 11), .int (q2.2.2.1.2.2.2.2.2)])), (h0 7, .inl (cA 0, 20, .inl (q2.2.2.1.1))), (h0 8, .inl (cA 0, 20, .inl (q2.2.2.1.2.1))), (h0 9, .inl (cA 2, 20, .inr (.inl (q2.2.2.1.2.2.1)))), (h0 10, .inl (cA 0, 20, .inl (q2.2.2.1.2.2.2.1))), (h0 11, .inl (cA 0, 20, .inl (q2.2.2.1.2.2.2.2.1))), (h0 12, .inr (8, [.ref (h0 13), .ref (h0 14), .ref (h0 15), .ref (h0 16), .ref (h0 17), .ref (h0 18), .int (q2.2.2.2.1.2.2.2.2.2.2)])), (h0 13, .inl (cA 0, 6, .inl (q2.2.2.2.1.1))), (h0 14, .inl (cA 0, 6, .inl (q2.2.2.2.1.2.1))), (h0 15, .inl (cA 0, 6, .inl (q2.2.2.2.1.2.2.1))), (h0 16, .inl (cA 0, 6, .inl (q2.2.2.2.1.2.2.2.1))), (h0 17, .inl (cA 0, 6, .inl (q2.2.2.2.1.2.2.2.2.1))), (h0 18, .inl (cA 0, 6, .inl (q2.2.2.2.1.2.2.2.2.2.1))), (h0 22, .inr (3, [.ref (h0 23), .ref (h0 24), .int (q2.2.2.2.2.2.1.2.2.1), .int (q2.2.2.2.2.2.1.2.2.2)])), (h0 23, .inl (cA 0, 10, .inl (q2.2.2.2.2.2.1.1))), (h0 24, .inl (cA 0, 10, .inl (q2.2.2.2.2.2.1.2.1)))]) rfl rfl rfl rfl rfl (fun H locs hP hD hS => ?_)
  refine lv_iload_n hx hb dX3_buyLot_22 rfl (lv_at hl 0 rfl) ?_
  have h := Option.some.inj h
  subst h
  exact xIret hx hb hr hlocks hP hK hD hS dX3_buyLot_23
def fX3_sellCostumes (N : Nat) (a1 : Int32) (a2 : Int32) (s0 : BooS) : Option (Int32 × BooS) :=
  xcall (fX11_costByLots N a1 s0.2.2.2.1) fun q1 =>
  xcall (fX3_makeEntry N 0 4 (Int32.toInt64 (a1 * a2)) s0) fun q2 =>
  xcall (fX3_makeEntry N 5 1 (q1.toInt64) q2.2) fun q3 =>
  xcall (fX11_take N a1 q3.2.2.2.2.1) fun q4 =>
  some (q1, (Boos3 q3.2 q4))
set_option maxRecDepth 100000 in
set_option maxHeartbeats 4000000 in
theorem kX3_sellCostumes (l : Launch) (D : va_G) (cA : Nat → ClassId) (ad : Nat → Nat) (h0 : Nat → Nat) (sz N : Nat) (a1 : Int32) (a2 : Int32) (s0 : BooS) (q : Int32 × BooS) (h : fX3_sellCostumes N a1 a2 s0 = some q) : zM l yX3_sellCostumes cX3_sellCostumes 4 (some .int) ({ frames := 3, cells := 0, slots := 0, locals := 71 }) D cA ad (BooW cA h0 s0) sz [.ref (h0 0), .int a1, .int a2] (some (.int q.1)) (BooW cA h0 q.2) := by
  generalize erm : ({ frames := 3, cells := 0, slots := 0, locals := 71 } : Room) = rm
  refine zMet (by decide) (Nat.le_of_ble_eq_true rfl) ?_
  intro p e s m below meth c hx hb hr hlocks hml hts hown hin hK hP A eA hD hS hA hsz hN hE ls hl
  have hl : lv_has ls 4 [(0, .ref (h0 0)), (1, .int a1), (2, .int a2)] := hl
  clear eA
  rw [fX3_sellCostumes] at h
  refine lv_aload_n hx hb dX3_sellCostumes_0 rfl (lv_at hl 0 rfl) ?_
  refine va_get (D := D) (ci := 4) (v := .ref (h0 19)) (C := RX3) (T := TX3) (N := 7) hx hb hts iX3 hown hK hP 0 rfl rfl 3 (by decide) (hts _ qfl_X3_35) (fun _ h9 => h9) rfl dX3_sellCostumes_1 ?_
  refine lv_iload_n hx hb dX3_sellCostumes_4 rfl (lv_at hl 1 rfl) ?_
  obtain ⟨q1, c1, h⟩ := x_call h
  refine xCall (w2 := BooW cA h0 s0) (zRunV (n := 1) (As := [.int a1]) (rest := []) ⟨hx, hb, hml, hown, hts⟩ (kX11_costByLots l D cA ad (fun k => h0 (k + 19)) _ N a1 s0.2.2.2.1 q1 c1) qco_X11_costByLots qml_X3_139 qin_X11_costByLots qse_X11_costByLots qini_X11 (by decide +kernel) (by rw [← erm]; rfl) hN hE hS hA hK hP hD [19, 20, 21] rfl rfl (q0 := 0) rfl rfl rfl rfl rfl hl.1 rfl (lv_room (Nat.le_of_ble_eq_true rfl)) dX3_sellCostumes_5 ⟨Nat.zero_le _, Nat.zero_le _⟩) hP hD hS hA [19, 20, 21] [0, 1, 2, 3, 4, 5, 6, 7, 8, 9, 10, 11, 12, 13, 14, 15, 16, 17, 18, 22, 23, 24] [0, 1, 2, 3, 4, 5, 6, 7, 8, 9, 10, 11, 12, 13, 14, 15, 16, 17, 18, 22, 23, 24, 19, 20, 21] rfl (wr := [(h0 0, .inr (4, [.ref (h0 1), .ref (h0 6), .ref (h0 12), .ref (h0 19), .ref (h0 22), .int (s0.2.2.2.2.2.1), .int (s0.2.2.2.2.2.2)])), (h0 1, .inr (2, [.ref (h0 2), .ref (h0 3), .ref (h0 4), .ref (h0 5), .int (s0.1.2.2.2.2)])), (h0 2, .inl (cA 1, 12, .inl (s0.1.1))), (h0 3, .inl (cA 0, 12, .inl (s0.1.2.1))), (h0 4, .inl (cA 2, 12, .inr (.inl (s0.1.2.2.1)))), (h0 5, .inl (cA 2, 12, .inr (.inl (s0.1.2.2.2.1)))), (h0 6, .inr (6, [.ref (h0 7), .ref (h0 8), .ref (h0 9), .ref (h0 10), .ref (h0 11), .int (s0.2.1.2.2.2.2.2)])), (h0 7, .inl (cA 0, 20, .inl (s0.2.1.1))), (h0 8, .inl (cA 0, 20, .inl (s0.2.1.2.1))), (h0 9, .inl (cA 2, 20, .inr (.inl (s0.2.1.2.2.1)))), (h0 10, .inl (cA 0, 20, .inl (s0.2.1.2.2.2.1))), (h0 11, .inl (cA 0, 20, .inl (s0.2.1.2.2.2.2.1))), (h0 12, .inr (8, [.ref (h0 13), .ref (h0 14), .ref (h0 15), .ref (h0 16), .ref (h0 17), .ref (h0 18), .int (s0.2.2.1.2.2.2.2.2.2)])), (h0 13, .inl (cA 0, 6, .inl (s0.2.2.1.1))), (h0 14, .inl (cA 0, 6, .inl (s0.2.2.1.2.1))), (h0 15, .inl (cA 0, 6, .inl (s0.2.2.1.2.2.1))), (h0 16, .inl (cA 0, 6, .inl (s0.2.2.1.2.2.2.1))), (h0 17, .inl (cA 0, 6, .inl (s0.2.2.1.2.2.2.2.1))), (h0 18, .inl (cA 0, 6, .inl (s0.2.2.1.2.2.2.2.2.1))), (h0 22, .inr (3, [.ref (h0 23), .ref (h0 24), .int (s0.2.2.2.2.1.2.2.1), .int (s0.2.2.2.2.1.2.2.2)])), (h0 23, .inl (cA 0, 10, .inl (s0.2.2.2.2.1.1))), (h0 24, .inl (cA 0, 10, .inl (s0.2.2.2.2.1.2.1)))]) rfl rfl rfl rfl rfl (fun H locs hP hD hS => ?_)
  refine lv_istore_n (lv' := [(3, .int q1), (0, .ref (h0 0)), (1, .int a1), (2, .int a2)]) hx hb dX3_sellCostumes_8 rfl hl (by decide) rfl (fun ls hl => ?_)
  refine lv_aload_n hx hb dX3_sellCostumes_9 rfl (lv_at hl 1 rfl) ?_
  refine lv_iconst (v := 0) hx hb dX3_sellCostumes_10 (by decide) ?_
  refine lv_iconst (v := 4) hx hb dX3_sellCostumes_11 (by decide) ?_
  refine lv_iload_n hx hb dX3_sellCostumes_12 rfl (lv_at hl 2 rfl) ?_
  refine lv_iload_n hx hb dX3_sellCostumes_13 rfl (lv_at hl 3 rfl) ?_
  refine lv_imul hx hb dX3_sellCostumes_14 ?_
  refine lv_i2l hx hb dX3_sellCostumes_15 rfl ?_
  obtain ⟨q2, c2, h⟩ := x_call h
  refine xCall (w2 := BooW cA h0 q2.2) (zRunV (n := 3) (As := [.int 0, .int 4, .long (Int32.toInt64 (a1 * a2))]) (rest := []) ⟨hx, hb, hml, hown, hts⟩ (kX3_makeEntry l D cA ad h0 _ N 0 4 (Int32.toInt64 (a1 * a2)) s0 q2 c2) qco_X3_makeEntry qml_X3_92 qin_X3_makeEntry qse_X3_makeEntry qini_X3 (by decide +kernel) (by rw [← erm]; rfl) hN hE hS hA hK hP hD [0, 1, 2, 3, 4, 5, 6, 7, 8, 9, 10, 11, 12, 13, 14, 15, 16, 17, 18, 19, 20, 21, 22, 23, 24] rfl rfl (q0 := 0) rfl rfl rfl rfl rfl hl.1 rfl (lv_room (Nat.le_of_ble_eq_true rfl)) dX3_sellCostumes_16 ⟨Nat.zero_le _, Nat.zero_le _⟩) hP hD hS hA [0, 1, 2, 3, 4, 5, 6, 7, 8, 9, 10, 11, 12, 13, 14, 15, 16, 17, 18, 19, 20, 21, 22, 23, 24] [] [0, 1, 2, 3, 4, 5, 6, 7, 8, 9, 10, 11, 12, 13, 14, 15, 16, 17, 18, 19, 20, 21, 22, 23, 24] rfl (wr := []) rfl rfl rfl rfl rfl (fun H locs hP hD hS => ?_)
  refine lv_pop hx hb dX3_sellCostumes_19 rfl ?_
  refine lv_aload_n hx hb dX3_sellCostumes_20 rfl (lv_at hl 1 rfl) ?_
  refine lv_iconst (v := 5) hx hb dX3_sellCostumes_21 (by decide) ?_
  refine lv_iconst (v := 1) hx hb dX3_sellCostumes_22 (by decide) ?_
  refine lv_iload_n hx hb dX3_sellCostumes_23 rfl (lv_at hl 0 rfl) ?_
  refine lv_i2l hx hb dX3_sellCostumes_24 rfl ?_
  obtain ⟨q3, c3, h⟩ := x_call h
  refine xCall (w2 := BooW cA h0 q3.2) (zRunV (n := 3) (As := [.int 5, .int 1, .long (q1.toInt64)]) (rest := []) ⟨hx, hb, hml, hown, hts⟩ (kX3_makeEntry l D cA ad h0 _ N 5 1 (q1.toInt64) q2.2 q3 c3) qco_X3_makeEntry qml_X3_92 qin_X3_makeEntry qse_X3_makeEntry qini_X3 (by decide +kernel) (by rw [← erm]; rfl) hN hE hS hA hK hP hD [0, 1, 2, 3, 4, 5, 6, 7, 8, 9, 10, 11, 12, 13, 14, 15, 16, 17, 18, 19, 20, 21, 22, 23, 24] rfl rfl (q0 := 0) rfl rfl rfl rfl rfl hl.1 rfl (lv_room (Nat.le_of_ble_eq_true rfl)) dX3_sellCostumes_25 ⟨Nat.zero_le _, Nat.zero_le _⟩) hP hD hS hA [0, 1, 2, 3, 4, 5, 6, 7, 8, 9, 10, 11, 12, 13, 14, 15, 16, 17, 18, 19, 20, 21, 22, 23, 24] [] [0, 1, 2, 3, 4, 5, 6, 7, 8, 9, 10, 11, 12, 13, 14, 15, 16, 17, 18, 19, 20, 21, 22, 23, 24] rfl (wr := []) rfl rfl rfl rfl rfl (fun H locs hP hD hS => ?_)
  refine lv_pop hx hb dX3_sellCostumes_28 rfl ?_
  refine lv_aload_n hx hb dX3_sellCostumes_29 rfl (lv_at hl 1 rfl) ?_
  refine va_get (D := D) (ci := 4) (v := .ref (h0 19)) (C := RX3) (T := TX3) (N := 7) hx hb hts iX3 hown hK hP 0 rfl rfl 3 (by decide) (hts _ qfl_X3_35) (fun _ h9 => h9) rfl dX3_sellCostumes_30 ?_
  refine lv_iload_n hx hb dX3_sellCostumes_33 rfl (lv_at hl 2 rfl) ?_
  obtain ⟨q4, c4, h⟩ := x_call h
  refine xCall (w2 := BooW cA h0 ((Boos3 q3.2 q4))) (zRunV (n := 1) (As := [.int a1]) (rest := []) ⟨hx, hb, hml, hown, hts⟩ (kX11_take l D cA ad (fun k => h0 (k + 19)) _ N a1 q3.2.2.2.2.1 q4 c4) qco_X11_take qml_X3_142 qin_X11_take qse_X11_take qini_X11 (by decide +kernel) (by rw [← erm]; rfl) hN hE hS hA hK hP hD [19, 20, 21] rfl rfl (q0 := 0) rfl rfl rfl rfl rfl hl.1 rfl (lv_room (Nat.le_of_ble_eq_true rfl)) dX3_sellCostumes_34 ⟨Nat.zero_le _, Nat.zero_le _⟩) hP hD hS hA [19, 20, 21] [0, 1, 2, 3, 4, 5, 6, 7, 8, 9, 10, 11, 12, 13, 14, 15, 16, 17, 18, 22, 23, 24] [0, 1, 2, 3, 4, 5, 6, 7, 8, 9, 10, 11, 12, 13, 14, 15, 16, 17, 18, 22, 23, 24, 19, 20, 21] rfl (wr := [(h0 0, .inr (4, [.ref (h0 1), .ref (h0 6), .ref (h0 12), .ref (h0 19), .ref (h0 22), .int (q3.2.2.2.2.2.2.1), .int (q3.2.2.2.2.2.2.2)])), (h0 1, .inr (2, [.ref (h0 2), .ref (h0 3), .ref (h0 4), .ref (h0 5), .int (q3.2.1.2.2.2.2)])), (h0 2, .inl (cA 1, 12, .inl (q3.2.1.1))), (h0 3, .inl (cA 0, 12, .inl (q3.2.1.2.1))), (h0 4, .inl (cA 2, 12, .inr (.inl (q3.2.1.2.2.1)))), (h0 5, .inl (cA 2, 12, .inr (.inl (q3.2.1.2.2.2.1)))), (h0 6, .inr (6, [.ref (h0 7), .ref (h0 8), .ref (h0 9), .ref (h0 10), .ref (h0 11), .int (q3.2.2.1.2.2.2.2.2)])), (h0 7, .inl (cA 0, 20, .inl (q3.2.2.1.1))), (h0 8, .inl (cA 0, 20, .inl (q3.2.2.1.2.1))), (h0 9, .inl (cA 2, 20, .inr (.inl (q3.2.2.1.2.2.1)))), (h0 10, .inl (cA 0, 20, .inl (q3.2.2.1.2.2.2.1))), (h0 11, .inl (cA 0, 20, .inl (q3.2.2.1.2.2.2.2.1))), (h0 12, .inr (8, [.ref (h0 13), .ref (h0 14), .ref (h0 15), .ref (h0 16), .ref (h0 17), .ref (h0 18), .int (q3.2.2.2.1.2.2.2.2.2.2)])), (h0 13, .inl (cA 0, 6, .inl (q3.2.2.2.1.1))), (h0 14, .inl (cA 0, 6, .inl (q3.2.2.2.1.2.1))), (h0 15, .inl (cA 0, 6, .inl (q3.2.2.2.1.2.2.1))), (h0 16, .inl (cA 0, 6, .inl (q3.2.2.2.1.2.2.2.1))), (h0 17, .inl (cA 0, 6, .inl (q3.2.2.2.1.2.2.2.2.1))), (h0 18, .inl (cA 0, 6, .inl (q3.2.2.2.1.2.2.2.2.2.1))), (h0 22, .inr (3, [.ref (h0 23), .ref (h0 24), .int (q3.2.2.2.2.2.1.2.2.1), .int (q3.2.2.2.2.2.1.2.2.2)])), (h0 23, .inl (cA 0, 10, .inl (q3.2.2.2.2.2.1.1))), (h0 24, .inl (cA 0, 10, .inl (q3.2.2.2.2.2.1.2.1)))]) rfl rfl rfl rfl rfl (fun H locs hP hD hS => ?_)
  refine lv_iload_n hx hb dX3_sellCostumes_37 rfl (lv_at hl 0 rfl) ?_
  have h := Option.some.inj h
  subst h
  exact xIret hx hb hr hlocks hP hK hD hS dX3_sellCostumes_38
def fX3_writeBill (N : Nat) (a1 : Int32) (s0 : BooS) : Option (Int32 × BooS) :=
  xcall (fX3_makeEntry N 2 4 (a1.toInt64) s0) fun q1 =>
  xcall (fX2_add N a1 q1.2.2.2.2.2.1) fun q2 =>
  some (q2.1, (Boos4 q1.2 q2.2))
set_option maxRecDepth 100000 in
set_option maxHeartbeats 4000000 in
theorem kX3_writeBill (l : Launch) (D : va_G) (cA : Nat → ClassId) (ad : Nat → Nat) (h0 : Nat → Nat) (sz N : Nat) (a1 : Int32) (s0 : BooS) (q : Int32 × BooS) (h : fX3_writeBill N a1 s0 = some q) : zM l yX3_writeBill cX3_writeBill 2 (some .int) ({ frames := 3, cells := 0, slots := 0, locals := 71 }) D cA ad (BooW cA h0 s0) sz [.ref (h0 0), .int a1] (some (.int q.1)) (BooW cA h0 q.2) := by
  generalize erm : ({ frames := 3, cells := 0, slots := 0, locals := 71 } : Room) = rm
  refine zMet (by decide) (Nat.le_of_ble_eq_true rfl) ?_
  intro p e s m below meth c hx hb hr hlocks hml hts hown hin hK hP A eA hD hS hA hsz hN hE ls hl
  have hl : lv_has ls 2 [(0, .ref (h0 0)), (1, .int a1)] := hl
  clear eA
  rw [fX3_writeBill] at h
  refine lv_aload_n hx hb dX3_writeBill_0 rfl (lv_at hl 0 rfl) ?_
  refine lv_iconst (v := 2) hx hb dX3_writeBill_1 (by decide) ?_
  refine lv_iconst (v := 4) hx hb dX3_writeBill_2 (by decide) ?_
  refine lv_iload_n hx hb dX3_writeBill_3 rfl (lv_at hl 1 rfl) ?_
  refine lv_i2l hx hb dX3_writeBill_4 rfl ?_
  obtain ⟨q1, c1, h⟩ := x_call h
  refine xCall (w2 := BooW cA h0 q1.2) (zRunV (n := 3) (As := [.int 2, .int 4, .long (a1.toInt64)]) (rest := []) ⟨hx, hb, hml, hown, hts⟩ (kX3_makeEntry l D cA ad h0 _ N 2 4 (a1.toInt64) s0 q1 c1) qco_X3_makeEntry qml_X3_92 qin_X3_makeEntry qse_X3_makeEntry qini_X3 (by decide +kernel) (by rw [← erm]; rfl) hN hE hS hA hK hP hD [0, 1, 2, 3, 4, 5, 6, 7, 8, 9, 10, 11, 12, 13, 14, 15, 16, 17, 18, 19, 20, 21, 22, 23, 24] rfl rfl (q0 := 0) rfl rfl rfl rfl rfl hl.1 rfl (lv_room (Nat.le_of_ble_eq_true rfl)) dX3_writeBill_5 ⟨Nat.zero_le _, Nat.zero_le _⟩) hP hD hS hA [0, 1, 2, 3, 4, 5, 6, 7, 8, 9, 10, 11, 12, 13, 14, 15, 16, 17, 18, 19, 20, 21, 22, 23, 24] [] [0, 1, 2, 3, 4, 5, 6, 7, 8, 9, 10, 11, 12, 13, 14, 15, 16, 17, 18, 19, 20, 21, 22, 23, 24] rfl (wr := []) rfl rfl rfl rfl rfl (fun H locs hP hD hS => ?_)
  refine lv_pop hx hb dX3_writeBill_8 rfl ?_
  refine lv_aload_n hx hb dX3_writeBill_9 rfl (lv_at hl 0 rfl) ?_
  refine va_get (D := D) (ci := 4) (v := .ref (h0 22)) (C := RX3) (T := TX3) (N := 7) hx hb hts iX3 hown hK hP 0 rfl rfl 4 (by decide) (hts _ qfl_X3_42) (fun _ h9 => h9) rfl dX3_writeBill_10 ?_
  refine lv_iload_n hx hb dX3_writeBill_13 rfl (lv_at hl 1 rfl) ?_
  obtain ⟨q2, c2, h⟩ := x_call h
  refine xCall (w2 := BooW cA h0 ((Boos4 q1.2 q2.2))) (zRunV (n := 1) (As := [.int a1]) (rest := []) ⟨hx, hb, hml, hown, hts⟩ (kX2_add l D cA ad (fun k => h0 (k + 22)) _ N a1 q1.2.2.2.2.2.1 q2 c2) qco_X2_add qml_X3_145 qin_X2_add qse_X2_add qini_X2 (by decide +kernel) (by rw [← erm]; rfl) hN hE hS hA hK hP hD [22, 23, 24] rfl rfl (q0 := 0) rfl rfl rfl rfl rfl hl.1 rfl (lv_room (Nat.le_of_ble_eq_true rfl)) dX3_writeBill_14 ⟨Nat.zero_le _, Nat.zero_le _⟩) hP hD hS hA [22, 23, 24] [0, 1, 2, 3, 4, 5, 6, 7, 8, 9, 10, 11, 12, 13, 14, 15, 16, 17, 18, 19, 20, 21] [0, 1, 2, 3, 4, 5, 6, 7, 8, 9, 10, 11, 12, 13, 14, 15, 16, 17, 18, 19, 20, 21, 22, 23, 24] rfl (wr := [(h0 0, .inr (4, [.ref (h0 1), .ref (h0 6), .ref (h0 12), .ref (h0 19), .ref (h0 22), .int (q1.2.2.2.2.2.2.1), .int (q1.2.2.2.2.2.2.2)])), (h0 1, .inr (2, [.ref (h0 2), .ref (h0 3), .ref (h0 4), .ref (h0 5), .int (q1.2.1.2.2.2.2)])), (h0 2, .inl (cA 1, 12, .inl (q1.2.1.1))), (h0 3, .inl (cA 0, 12, .inl (q1.2.1.2.1))), (h0 4, .inl (cA 2, 12, .inr (.inl (q1.2.1.2.2.1)))), (h0 5, .inl (cA 2, 12, .inr (.inl (q1.2.1.2.2.2.1)))), (h0 6, .inr (6, [.ref (h0 7), .ref (h0 8), .ref (h0 9), .ref (h0 10), .ref (h0 11), .int (q1.2.2.1.2.2.2.2.2)])), (h0 7, .inl (cA 0, 20, .inl (q1.2.2.1.1))), (h0 8, .inl (cA 0, 20, .inl (q1.2.2.1.2.1))), (h0 9, .inl (cA 2, 20, .inr (.inl (q1.2.2.1.2.2.1)))), (h0 10, .inl (cA 0, 20, .inl (q1.2.2.1.2.2.2.1))), (h0 11, .inl (cA 0, 20, .inl (q1.2.2.1.2.2.2.2.1))), (h0 12, .inr (8, [.ref (h0 13), .ref (h0 14), .ref (h0 15), .ref (h0 16), .ref (h0 17), .ref (h0 18), .int (q1.2.2.2.1.2.2.2.2.2.2)])), (h0 13, .inl (cA 0, 6, .inl (q1.2.2.2.1.1))), (h0 14, .inl (cA 0, 6, .inl (q1.2.2.2.1.2.1))), (h0 15, .inl (cA 0, 6, .inl (q1.2.2.2.1.2.2.1))), (h0 16, .inl (cA 0, 6, .inl (q1.2.2.2.1.2.2.2.1))), (h0 17, .inl (cA 0, 6, .inl (q1.2.2.2.1.2.2.2.2.1))), (h0 18, .inl (cA 0, 6, .inl (q1.2.2.2.1.2.2.2.2.2.1))), (h0 19, .inr (10, [.ref (h0 20), .ref (h0 21), .int (q1.2.2.2.2.1.2.2)])), (h0 20, .inl (cA 0, 8, .inl (q1.2.2.2.2.1.1))), (h0 21, .inl (cA 0, 8, .inl (q1.2.2.2.2.1.2.1)))]) rfl rfl rfl rfl rfl (fun H locs hP hD hS => ?_)
  have h := Option.some.inj h
  subst h
  exact xIret hx hb hr hlocks hP hK hD hS dX3_writeBill_17
def fX3_takePayment (N : Nat) (a1 : Int32) (a2 : Int32) (s0 : BooS) : Option (Int32 × BooS) :=
  xcall (fX3_makeEntry N 0 2 (a1.toInt64) s0) fun q1 =>
  xjoin (fun (t0_2 : Int32) (s0_2 : BooS) =>
      some (t0_2, s0_2)
    ) fun J32 =>
  if a2 = 0 then
    xcall (fX2_payInOrder N a1 q1.2.2.2.2.2.1) fun q5 =>
    J32 q5.1 ((Boos4 q1.2 q5.2))
  else
    xcall (fX2_paySet N a2 q1.2.2.2.2.2.1) fun q4 =>
    J32 q4.1 ((Boos4 q1.2 q4.2))
set_option maxRecDepth 100000 in
set_option maxHeartbeats 4000000 in
theorem kX3_takePayment (l : Launch) (D : va_G) (cA : Nat → ClassId) (ad : Nat → Nat) (h0 : Nat → Nat) (sz N : Nat) (a1 : Int32) (a2 : Int32) (s0 : BooS) (q : Int32 × BooS) (h : fX3_takePayment N a1 a2 s0 = some q) : zM l yX3_takePayment cX3_takePayment 3 (some .int) ({ frames := 3, cells := 0, slots := 0, locals := 71 }) D cA ad (BooW cA h0 s0) sz [.ref (h0 0), .int a1, .int a2] (some (.int q.1)) (BooW cA h0 q.2) := by
  generalize erm : ({ frames := 3, cells := 0, slots := 0, locals := 71 } : Room) = rm
  refine zMet (by decide) (Nat.le_of_ble_eq_true rfl) ?_
  intro p e s m below meth c hx hb hr hlocks hml hts hown hin hK hP A eA hD hS hA hsz hN hE ls hl
  have hl : lv_has ls 3 [(0, .ref (h0 0)), (1, .int a1), (2, .int a2)] := hl
  clear eA
  rw [fX3_takePayment] at h
  refine lv_aload_n hx hb dX3_takePayment_0 rfl (lv_at hl 0 rfl) ?_
  refine lv_iconst (v := 0) hx hb dX3_takePayment_1 (by decide) ?_
  refine lv_iconst (v := 2) hx hb dX3_takePayment_2 (by decide) ?_
  refine lv_iload_n hx hb dX3_takePayment_3 rfl (lv_at hl 1 rfl) ?_
  refine lv_i2l hx hb dX3_takePayment_4 rfl ?_
  obtain ⟨q1, c1, h⟩ := x_call h
  refine xCall (w2 := BooW cA h0 q1.2) (zRunV (n := 3) (As := [.int 0, .int 2, .long (a1.toInt64)]) (rest := []) ⟨hx, hb, hml, hown, hts⟩ (kX3_makeEntry l D cA ad h0 _ N 0 2 (a1.toInt64) s0 q1 c1) qco_X3_makeEntry qml_X3_92 qin_X3_makeEntry qse_X3_makeEntry qini_X3 (by decide +kernel) (by rw [← erm]; rfl) hN hE hS hA hK hP hD [0, 1, 2, 3, 4, 5, 6, 7, 8, 9, 10, 11, 12, 13, 14, 15, 16, 17, 18, 19, 20, 21, 22, 23, 24] rfl rfl (q0 := 0) rfl rfl rfl rfl rfl hl.1 rfl (lv_room (Nat.le_of_ble_eq_true rfl)) dX3_takePayment_5 ⟨Nat.zero_le _, Nat.zero_le _⟩) hP hD hS hA [0, 1, 2, 3, 4, 5, 6, 7, 8, 9, 10, 11, 12, 13, 14, 15, 16, 17, 18, 19, 20, 21, 22, 23, 24] [] [0, 1, 2, 3, 4, 5, 6, 7, 8, 9, 10, 11, 12, 13, 14, 15, 16, 17, 18, 19, 20, 21, 22, 23, 24] rfl (wr := []) rfl rfl rfl rfl rfl (fun H locs hP hD hS => ?_)
  refine lv_pop hx hb dX3_takePayment_8 rfl ?_
  refine lv_iload_n hx hb dX3_takePayment_9 rfl (lv_at hl 2 rfl) ?_
  obtain ⟨J32, eJ32, h⟩ := x_join h
  have hJ_J32 : ∀ (t0_2 : Int32) (s0_2 : BooS) (H : Heap) (locs : List Loc), va_P D vwCl (BooW cA h0 s0_2) H → va_D A (BooW cA h0 s0_2) → va_S A s.heap H locs → ∀ ls : Array Slot, lv_has ls 3 [] → J32 t0_2 s0_2 = some q → W p l e rm s m ([.ref (h0 0), .int a1, .int a2] : List Value).toArray below meth c H locs 0 0 (MQ below (xQ D cA A (BooW cA h0 q.2) (some (.int q.1))) ([.ref (h0 0), .int a1, .int a2] : List Value).toArray s 0 0 A) (F0 m 32 ls [.int t0_2]) := by
    clear h hP hD hS hl
    intro t0_2 s0_2 H locs hP hD hS ls hl h
    rw [eJ32] at h
    have h := Option.some.inj h
    subst h
    exact xIret hx hb hr hlocks hP hK hD hS dX3_takePayment_32
  refine lv_if_ne (tgt := 24) hx hb dX3_takePayment_10 (by decide) (fun c3 => ?_) (fun c3 => ?_)
  · have h := x_f h c3
    refine lv_aload_n hx hb dX3_takePayment_24 rfl (lv_at hl 0 rfl) ?_
    refine va_get (D := D) (ci := 4) (v := .ref (h0 22)) (C := RX3) (T := TX3) (N := 7) hx hb hts iX3 hown hK hP 0 rfl rfl 4 (by decide) (hts _ qfl_X3_42) (fun _ h9 => h9) rfl dX3_takePayment_25 ?_
    refine lv_iload_n hx hb dX3_takePayment_28 rfl (lv_at hl 2 rfl) ?_
    obtain ⟨q4, c4, h⟩ := x_call h
    refine xCall (w2 := BooW cA h0 ((Boos4 q1.2 q4.2))) (zRunV (n := 1) (As := [.int a2]) (rest := []) ⟨hx, hb, hml, hown, hts⟩ (kX2_paySet l D cA ad (fun k => h0 (k + 22)) _ N a2 q1.2.2.2.2.2.1 q4 c4) qco_X2_paySet qml_X3_150 qin_X2_paySet qse_X2_paySet qini_X2 (by decide +kernel) (by rw [← erm]; rfl) hN hE hS hA hK hP hD [22, 23, 24] rfl rfl (q0 := 0) rfl rfl rfl rfl rfl hl.1 rfl (lv_room (Nat.le_of_ble_eq_true rfl)) dX3_takePayment_29 ⟨Nat.zero_le _, Nat.zero_le _⟩) hP hD hS hA [22, 23, 24] [0, 1, 2, 3, 4, 5, 6, 7, 8, 9, 10, 11, 12, 13, 14, 15, 16, 17, 18, 19, 20, 21] [0, 1, 2, 3, 4, 5, 6, 7, 8, 9, 10, 11, 12, 13, 14, 15, 16, 17, 18, 19, 20, 21, 22, 23, 24] rfl (wr := [(h0 0, .inr (4, [.ref (h0 1), .ref (h0 6), .ref (h0 12), .ref (h0 19), .ref (h0 22), .int (q1.2.2.2.2.2.2.1), .int (q1.2.2.2.2.2.2.2)])), (h0 1, .inr (2, [.ref (h0 2), .ref (h0 3), .ref (h0 4), .ref (h0 5), .int (q1.2.1.2.2.2.2)])), (h0 2, .inl (cA 1, 12, .inl (q1.2.1.1))), (h0 3, .inl (cA 0, 12, .inl (q1.2.1.2.1))), (h0 4, .inl (cA 2, 12, .inr (.inl (q1.2.1.2.2.1)))), (h0 5, .inl (cA 2, 12, .inr (.inl (q1.2.1.2.2.2.1)))), (h0 6, .inr (6, [.ref (h0 7), .ref (h0 8), .ref (h0 9), .ref (h0 10), .ref (h0 11), .int (q1.2.2.1.2.2.2.2.2)])), (h0 7, .inl (cA 0, 20, .inl (q1.2.2.1.1))), (h0 8, .inl (cA 0, 20, .inl (q1.2.2.1.2.1))), (h0 9, .inl (cA 2, 20, .inr (.inl (q1.2.2.1.2.2.1)))), (h0 10, .inl (cA 0, 20, .inl (q1.2.2.1.2.2.2.1))), (h0 11, .inl (cA 0, 20, .inl (q1.2.2.1.2.2.2.2.1))), (h0 12, .inr (8, [.ref (h0 13), .ref (h0 14), .ref (h0 15), .ref (h0 16), .ref (h0 17), .ref (h0 18), .int (q1.2.2.2.1.2.2.2.2.2.2)])), (h0 13, .inl (cA 0, 6, .inl (q1.2.2.2.1.1))), (h0 14, .inl (cA 0, 6, .inl (q1.2.2.2.1.2.1))), (h0 15, .inl (cA 0, 6, .inl (q1.2.2.2.1.2.2.1))), (h0 16, .inl (cA 0, 6, .inl (q1.2.2.2.1.2.2.2.1))), (h0 17, .inl (cA 0, 6, .inl (q1.2.2.2.1.2.2.2.2.1))), (h0 18, .inl (cA 0, 6, .inl (q1.2.2.2.1.2.2.2.2.2.1))), (h0 19, .inr (10, [.ref (h0 20), .ref (h0 21), .int (q1.2.2.2.2.1.2.2)])), (h0 20, .inl (cA 0, 8, .inl (q1.2.2.2.2.1.1))), (h0 21, .inl (cA 0, 8, .inl (q1.2.2.2.2.1.2.1)))]) rfl rfl rfl rfl rfl (fun H locs hP hD hS => ?_)
    exact hJ_J32 q4.1 ((Boos4 q1.2 q4.2)) _ _ hP hD hS _ (lv_sub hl [] rfl) h
  · have h := x_t h c3
    refine lv_aload_n hx hb dX3_takePayment_13 rfl (lv_at hl 0 rfl) ?_
    refine va_get (D := D) (ci := 4) (v := .ref (h0 22)) (C := RX3) (T := TX3) (N := 7) hx hb hts iX3 hown hK hP 0 rfl rfl 4 (by decide) (hts _ qfl_X3_42) (fun _ h9 => h9) rfl dX3_takePayment_14 ?_
    refine lv_iload_n hx hb dX3_takePayment_17 rfl (lv_at hl 1 rfl) ?_
    obtain ⟨q5, c5, h⟩ := x_call h
    refine xCall (w2 := BooW cA h0 ((Boos4 q1.2 q5.2))) (zRunV (n := 1) (As := [.int a1]) (rest := []) ⟨hx, hb, hml, hown, hts⟩ (kX2_payInOrder l D cA ad (fun k => h0 (k + 22)) _ N a1 q1.2.2.2.2.2.1 q5 c5) qco_X2_payInOrder qml_X3_147 qin_X2_payInOrder qse_X2_payInOrder qini_X2 (by decide +kernel) (by rw [← erm]; rfl) hN hE hS hA hK hP hD [22, 23, 24] rfl rfl (q0 := 0) rfl rfl rfl rfl rfl hl.1 rfl (lv_room (Nat.le_of_ble_eq_true rfl)) dX3_takePayment_18 ⟨Nat.zero_le _, Nat.zero_le _⟩) hP hD hS hA [22, 23, 24] [0, 1, 2, 3, 4, 5, 6, 7, 8, 9, 10, 11, 12, 13, 14, 15, 16, 17, 18, 19, 20, 21] [0, 1, 2, 3, 4, 5, 6, 7, 8, 9, 10, 11, 12, 13, 14, 15, 16, 17, 18, 19, 20, 21, 22, 23, 24] rfl (wr := [(h0 0, .inr (4, [.ref (h0 1), .ref (h0 6), .ref (h0 12), .ref (h0 19), .ref (h0 22), .int (q1.2.2.2.2.2.2.1), .int (q1.2.2.2.2.2.2.2)])), (h0 1, .inr (2, [.ref (h0 2), .ref (h0 3), .ref (h0 4), .ref (h0 5), .int (q1.2.1.2.2.2.2)])), (h0 2, .inl (cA 1, 12, .inl (q1.2.1.1))), (h0 3, .inl (cA 0, 12, .inl (q1.2.1.2.1))), (h0 4, .inl (cA 2, 12, .inr (.inl (q1.2.1.2.2.1)))), (h0 5, .inl (cA 2, 12, .inr (.inl (q1.2.1.2.2.2.1)))), (h0 6, .inr (6, [.ref (h0 7), .ref (h0 8), .ref (h0 9), .ref (h0 10), .ref (h0 11), .int (q1.2.2.1.2.2.2.2.2)])), (h0 7, .inl (cA 0, 20, .inl (q1.2.2.1.1))), (h0 8, .inl (cA 0, 20, .inl (q1.2.2.1.2.1))), (h0 9, .inl (cA 2, 20, .inr (.inl (q1.2.2.1.2.2.1)))), (h0 10, .inl (cA 0, 20, .inl (q1.2.2.1.2.2.2.1))), (h0 11, .inl (cA 0, 20, .inl (q1.2.2.1.2.2.2.2.1))), (h0 12, .inr (8, [.ref (h0 13), .ref (h0 14), .ref (h0 15), .ref (h0 16), .ref (h0 17), .ref (h0 18), .int (q1.2.2.2.1.2.2.2.2.2.2)])), (h0 13, .inl (cA 0, 6, .inl (q1.2.2.2.1.1))), (h0 14, .inl (cA 0, 6, .inl (q1.2.2.2.1.2.1))), (h0 15, .inl (cA 0, 6, .inl (q1.2.2.2.1.2.2.1))), (h0 16, .inl (cA 0, 6, .inl (q1.2.2.2.1.2.2.2.1))), (h0 17, .inl (cA 0, 6, .inl (q1.2.2.2.1.2.2.2.2.1))), (h0 18, .inl (cA 0, 6, .inl (q1.2.2.2.1.2.2.2.2.2.1))), (h0 19, .inr (10, [.ref (h0 20), .ref (h0 21), .int (q1.2.2.2.2.1.2.2)])), (h0 20, .inl (cA 0, 8, .inl (q1.2.2.2.2.1.1))), (h0 21, .inl (cA 0, 8, .inl (q1.2.2.2.2.1.2.1)))]) rfl rfl rfl rfl rfl (fun H locs hP hD hS => ?_)
    refine lv_goto (tgt := 32) hx hb dX3_takePayment_21 (by decide) ?_
    exact hJ_J32 q5.1 ((Boos4 q1.2 q5.2)) _ _ hP hD hS _ (lv_sub hl [] rfl) h
def fX3_level (N : Nat) (a1 : Int32) (s0 : BooS) : Option (BooS) :=
  xcall (fX1_debitsAt N a1 s0.1) fun q1 =>
  xcall (fX1_creditsAt N a1 s0.1) fun q2 =>
  xlet (q1 - q2) fun x3 =>
  xjoin (fun (s0_4 : BooS) =>
      some s0_4
    ) fun J50 =>
  if (lg_cmp x3 0) ≤ 0 then
    if 0 ≤ (lg_cmp x3 0) then
      J50 s0
    else
      xcall (fX3_makeEntry N a1 3 (-x3) s0) fun q7 =>
      J50 q7.2
  else
    xcall (fX3_makeEntry N 3 a1 x3 s0) fun q8 =>
    J50 q8.2
set_option maxRecDepth 100000 in
set_option maxHeartbeats 4000000 in
theorem kX3_level (l : Launch) (D : va_G) (cA : Nat → ClassId) (ad : Nat → Nat) (h0 : Nat → Nat) (sz N : Nat) (a1 : Int32) (s0 : BooS) (q : BooS) (h : fX3_level N a1 s0 = some q) : zM l yX3_level cX3_level 4 none ({ frames := 3, cells := 0, slots := 0, locals := 71 }) D cA ad (BooW cA h0 s0) sz [.ref (h0 0), .int a1] (none) (BooW cA h0 q) := by
  generalize erm : ({ frames := 3, cells := 0, slots := 0, locals := 71 } : Room) = rm
  refine zMet (by decide) (Nat.le_of_ble_eq_true rfl) ?_
  intro p e s m below meth c hx hb hr hlocks hml hts hown hin hK hP A eA hD hS hA hsz hN hE ls hl
  have hl : lv_has ls 4 [(0, .ref (h0 0)), (1, .int a1)] := hl
  clear eA
  rw [fX3_level] at h
  refine lv_aload_n hx hb dX3_level_0 rfl (lv_at hl 0 rfl) ?_
  refine va_get (D := D) (ci := 4) (v := .ref (h0 1)) (C := RX3) (T := TX3) (N := 7) hx hb hts iX3 hown hK hP 0 rfl rfl 0 (by decide) (hts _ qfl_X3_12) (fun _ h9 => h9) rfl dX3_level_1 ?_
  refine lv_iload_n hx hb dX3_level_4 rfl (lv_at hl 1 rfl) ?_
  obtain ⟨q1, c1, h⟩ := x_call h
  refine xCall (w2 := BooW cA h0 s0) (zRunV (n := 1) (As := [.int a1]) (rest := []) ⟨hx, hb, hml, hown, hts⟩ (kX1_debitsAt l D cA ad (fun k => h0 (k + 1)) _ N a1 s0.1 q1 c1) qco_X1_debitsAt qml_X3_164 qin_X1_debitsAt qse_X1_debitsAt qini_X1 (by decide +kernel) (by rw [← erm]; rfl) hN hE hS hA hK hP hD [1, 2, 3, 4, 5] rfl rfl (q0 := 0) rfl rfl rfl rfl rfl hl.1 rfl (lv_room (Nat.le_of_ble_eq_true rfl)) dX3_level_5 ⟨Nat.zero_le _, Nat.zero_le _⟩) hP hD hS hA [1, 2, 3, 4, 5] [0, 6, 7, 8, 9, 10, 11, 12, 13, 14, 15, 16, 17, 18, 19, 20, 21, 22, 23, 24] [0, 20, 21, 22, 23, 24, 1, 2, 3, 4, 5, 6, 7, 8, 9, 10, 11, 12, 13, 14, 15, 16, 17, 18, 19] rfl (wr := [(h0 0, .inr (4, [.ref (h0 1), .ref (h0 6), .ref (h0 12), .ref (h0 19), .ref (h0 22), .int (s0.2.2.2.2.2.1), .int (s0.2.2.2.2.2.2)])), (h0 6, .inr (6, [.ref (h0 7), .ref (h0 8), .ref (h0 9), .ref (h0 10), .ref (h0 11), .int (s0.2.1.2.2.2.2.2)])), (h0 7, .inl (cA 0, 20, .inl (s0.2.1.1))), (h0 8, .inl (cA 0, 20, .inl (s0.2.1.2.1))), (h0 9, .inl (cA 2, 20, .inr (.inl (s0.2.1.2.2.1)))), (h0 10, .inl (cA 0, 20, .inl (s0.2.1.2.2.2.1))), (h0 11, .inl (cA 0, 20, .inl (s0.2.1.2.2.2.2.1))), (h0 12, .inr (8, [.ref (h0 13), .ref (h0 14), .ref (h0 15), .ref (h0 16), .ref (h0 17), .ref (h0 18), .int (s0.2.2.1.2.2.2.2.2.2)])), (h0 13, .inl (cA 0, 6, .inl (s0.2.2.1.1))), (h0 14, .inl (cA 0, 6, .inl (s0.2.2.1.2.1))), (h0 15, .inl (cA 0, 6, .inl (s0.2.2.1.2.2.1))), (h0 16, .inl (cA 0, 6, .inl (s0.2.2.1.2.2.2.1))), (h0 17, .inl (cA 0, 6, .inl (s0.2.2.1.2.2.2.2.1))), (h0 18, .inl (cA 0, 6, .inl (s0.2.2.1.2.2.2.2.2.1))), (h0 19, .inr (10, [.ref (h0 20), .ref (h0 21), .int (s0.2.2.2.1.2.2)])), (h0 20, .inl (cA 0, 8, .inl (s0.2.2.2.1.1))), (h0 21, .inl (cA 0, 8, .inl (s0.2.2.2.1.2.1))), (h0 22, .inr (3, [.ref (h0 23), .ref (h0 24), .int (s0.2.2.2.2.1.2.2.1), .int (s0.2.2.2.2.1.2.2.2)])), (h0 23, .inl (cA 0, 10, .inl (s0.2.2.2.2.1.1))), (h0 24, .inl (cA 0, 10, .inl (s0.2.2.2.2.1.2.1)))]) rfl rfl rfl rfl rfl (fun H locs hP hD hS => ?_)
  refine lv_aload_n hx hb dX3_level_8 rfl (lv_at hl 0 rfl) ?_
  refine va_get (D := D) (ci := 4) (v := .ref (h0 1)) (C := RX3) (T := TX3) (N := 7) hx hb hts iX3 hown hK hP 0 rfl rfl 0 (by decide) (hts _ qfl_X3_12) (fun _ h9 => h9) rfl dX3_level_9 ?_
  refine lv_iload_n hx hb dX3_level_12 rfl (lv_at hl 1 rfl) ?_
  obtain ⟨q2, c2, h⟩ := x_call h
  refine xCall (w2 := BooW cA h0 s0) (zRunV (n := 1) (As := [.int a1]) (rest := [.long q1]) ⟨hx, hb, hml, hown, hts⟩ (kX1_creditsAt l D cA ad (fun k => h0 (k + 1)) _ N a1 s0.1 q2 c2) qco_X1_creditsAt qml_X3_167 qin_X1_creditsAt qse_X1_creditsAt qini_X1 (by decide +kernel) (by rw [← erm]; rfl) hN hE hS hA hK hP hD [1, 2, 3, 4, 5] rfl rfl (q0 := 0) rfl rfl rfl rfl rfl hl.1 rfl (lv_room (Nat.le_of_ble_eq_true rfl)) dX3_level_13 ⟨Nat.zero_le _, Nat.zero_le _⟩) hP hD hS hA [1, 2, 3, 4, 5] [0, 6, 7, 8, 9, 10, 11, 12, 13, 14, 15, 16, 17, 18, 19, 20, 21, 22, 23, 24] [0, 20, 21, 22, 23, 24, 1, 2, 3, 4, 5, 6, 7, 8, 9, 10, 11, 12, 13, 14, 15, 16, 17, 18, 19] rfl (wr := [(h0 0, .inr (4, [.ref (h0 1), .ref (h0 6), .ref (h0 12), .ref (h0 19), .ref (h0 22), .int (s0.2.2.2.2.2.1), .int (s0.2.2.2.2.2.2)])), (h0 6, .inr (6, [.ref (h0 7), .ref (h0 8), .ref (h0 9), .ref (h0 10), .ref (h0 11), .int (s0.2.1.2.2.2.2.2)])), (h0 7, .inl (cA 0, 20, .inl (s0.2.1.1))), (h0 8, .inl (cA 0, 20, .inl (s0.2.1.2.1))), (h0 9, .inl (cA 2, 20, .inr (.inl (s0.2.1.2.2.1)))), (h0 10, .inl (cA 0, 20, .inl (s0.2.1.2.2.2.1))), (h0 11, .inl (cA 0, 20, .inl (s0.2.1.2.2.2.2.1))), (h0 12, .inr (8, [.ref (h0 13), .ref (h0 14), .ref (h0 15), .ref (h0 16), .ref (h0 17), .ref (h0 18), .int (s0.2.2.1.2.2.2.2.2.2)])), (h0 13, .inl (cA 0, 6, .inl (s0.2.2.1.1))), (h0 14, .inl (cA 0, 6, .inl (s0.2.2.1.2.1))), (h0 15, .inl (cA 0, 6, .inl (s0.2.2.1.2.2.1))), (h0 16, .inl (cA 0, 6, .inl (s0.2.2.1.2.2.2.1))), (h0 17, .inl (cA 0, 6, .inl (s0.2.2.1.2.2.2.2.1))), (h0 18, .inl (cA 0, 6, .inl (s0.2.2.1.2.2.2.2.2.1))), (h0 19, .inr (10, [.ref (h0 20), .ref (h0 21), .int (s0.2.2.2.1.2.2)])), (h0 20, .inl (cA 0, 8, .inl (s0.2.2.2.1.1))), (h0 21, .inl (cA 0, 8, .inl (s0.2.2.2.1.2.1))), (h0 22, .inr (3, [.ref (h0 23), .ref (h0 24), .int (s0.2.2.2.2.1.2.2.1), .int (s0.2.2.2.2.1.2.2.2)])), (h0 23, .inl (cA 0, 10, .inl (s0.2.2.2.2.1.1))), (h0 24, .inl (cA 0, 10, .inl (s0.2.2.2.2.1.2.1)))]) rfl rfl rfl rfl rfl (fun H locs hP hD hS => ?_)
  refine lv_lsub hx hb dX3_level_16 ?_
  refine lv_topl (fun x3 ex3 => ?_)
  have h := x_let h ex3
  refine lv_lstore_n (lv' := [(2, .long x3), (0, .ref (h0 0)), (1, .int a1)]) hx hb dX3_level_17 rfl hl (by decide) rfl (fun ls hl => ?_)
  refine lv_lload_n hx hb dX3_level_18 rfl (lv_at hl 0 rfl) ?_
  refine lv_lconst (v := 0) hx hb dX3_level_19 (by decide) ?_
  refine W.lcmp hx hb dX3_level_20 ?_
  obtain ⟨J50, eJ50, h⟩ := x_join h
  have hJ_J50 : ∀ (s0_4 : BooS) (H : Heap) (locs : List Loc), va_P D vwCl (BooW cA h0 s0_4) H → va_D A (BooW cA h0 s0_4) → va_S A s.heap H locs → ∀ ls : Array Slot, lv_has ls 4 [] → J50 s0_4 = some q → W p l e rm s m ([.ref (h0 0), .int a1] : List Value).toArray below meth c H locs 0 0 (MQ below (xQ D cA A (BooW cA h0 q) (none)) ([.ref (h0 0), .int a1] : List Value).toArray s 0 0 A) (F0 m 50 ls []) := by
    clear h hP hD hS hl
    intro s0_4 H locs hP hD hS ls hl h
    rw [eJ50] at h
    have h := Option.some.inj h
    subst h
    exact xVret hx hb hr hlocks hP hK hD hS dX3_level_50
  refine lv_if_le (tgt := 35) hx hb dX3_level_21 (by decide) (fun c5 => ?_) (fun c5 => ?_)
  · have h := x_t h c5
    refine lv_lload_n hx hb dX3_level_35 rfl (lv_at hl 0 rfl) ?_
    refine lv_lconst (v := 0) hx hb dX3_level_36 (by decide) ?_
    refine W.lcmp hx hb dX3_level_37 ?_
    refine lv_if_ge (tgt := 50) hx hb dX3_level_38 (by decide) (fun c6 => ?_) (fun c6 => ?_)
    · have h := x_t h c6
      exact hJ_J50 s0 _ _ hP hD hS _ (lv_sub hl [] rfl) h
    · have h := x_f h c6
      refine lv_aload_n hx hb dX3_level_41 rfl (lv_at hl 1 rfl) ?_
      refine lv_iload_n hx hb dX3_level_42 rfl (lv_at hl 2 rfl) ?_
      refine lv_iconst (v := 3) hx hb dX3_level_43 (by decide) ?_
      refine lv_lload_n hx hb dX3_level_44 rfl (lv_at hl 0 rfl) ?_
      refine lv_lneg hx hb dX3_level_45 ?_
      obtain ⟨q7, c7, h⟩ := x_call h
      refine xCall (w2 := BooW cA h0 q7.2) (zRunV (n := 3) (As := [.int a1, .int 3, .long (-x3)]) (rest := []) ⟨hx, hb, hml, hown, hts⟩ (kX3_makeEntry l D cA ad h0 _ N a1 3 (-x3) s0 q7 c7) qco_X3_makeEntry qml_X3_92 qin_X3_makeEntry qse_X3_makeEntry qini_X3 (by decide +kernel) (by rw [← erm]; rfl) hN hE hS hA hK hP hD [0, 1, 2, 3, 4, 5, 6, 7, 8, 9, 10, 11, 12, 13, 14, 15, 16, 17, 18, 19, 20, 21, 22, 23, 24] rfl rfl (q0 := 0) rfl rfl rfl rfl rfl hl.1 rfl (lv_room (Nat.le_of_ble_eq_true rfl)) dX3_level_46 ⟨Nat.zero_le _, Nat.zero_le _⟩) hP hD hS hA [0, 1, 2, 3, 4, 5, 6, 7, 8, 9, 10, 11, 12, 13, 14, 15, 16, 17, 18, 19, 20, 21, 22, 23, 24] [] [0, 1, 2, 3, 4, 5, 6, 7, 8, 9, 10, 11, 12, 13, 14, 15, 16, 17, 18, 19, 20, 21, 22, 23, 24] rfl (wr := []) rfl rfl rfl rfl rfl (fun H locs hP hD hS => ?_)
      refine lv_pop hx hb dX3_level_49 rfl ?_
      exact hJ_J50 q7.2 _ _ hP hD hS _ (lv_sub hl [] rfl) h
  · have h := x_f h c5
    refine lv_aload_n hx hb dX3_level_24 rfl (lv_at hl 1 rfl) ?_
    refine lv_iconst (v := 3) hx hb dX3_level_25 (by decide) ?_
    refine lv_iload_n hx hb dX3_level_26 rfl (lv_at hl 2 rfl) ?_
    refine lv_lload_n hx hb dX3_level_27 rfl (lv_at hl 0 rfl) ?_
    obtain ⟨q8, c8, h⟩ := x_call h
    refine xCall (w2 := BooW cA h0 q8.2) (zRunV (n := 3) (As := [.int 3, .int a1, .long x3]) (rest := []) ⟨hx, hb, hml, hown, hts⟩ (kX3_makeEntry l D cA ad h0 _ N 3 a1 x3 s0 q8 c8) qco_X3_makeEntry qml_X3_92 qin_X3_makeEntry qse_X3_makeEntry qini_X3 (by decide +kernel) (by rw [← erm]; rfl) hN hE hS hA hK hP hD [0, 1, 2, 3, 4, 5, 6, 7, 8, 9, 10, 11, 12, 13, 14, 15, 16, 17, 18, 19, 20, 21, 22, 23, 24] rfl rfl (q0 := 0) rfl rfl rfl rfl rfl hl.1 rfl (lv_room (Nat.le_of_ble_eq_true rfl)) dX3_level_28 ⟨Nat.zero_le _, Nat.zero_le _⟩) hP hD hS hA [0, 1, 2, 3, 4, 5, 6, 7, 8, 9, 10, 11, 12, 13, 14, 15, 16, 17, 18, 19, 20, 21, 22, 23, 24] [] [0, 1, 2, 3, 4, 5, 6, 7, 8, 9, 10, 11, 12, 13, 14, 15, 16, 17, 18, 19, 20, 21, 22, 23, 24] rfl (wr := []) rfl rfl rfl rfl rfl (fun H locs hP hD hS => ?_)
    refine lv_pop hx hb dX3_level_31 rfl ?_
    refine lv_goto (tgt := 50) hx hb dX3_level_32 (by decide) ?_
    exact hJ_J50 q8.2 _ _ hP hD hS _ (lv_sub hl [] rfl) h
def fX3_dropCurtain_L10 (N : Nat) (K43 : Int64 → BooS → Option (Int64 × BooS)) : Nat → Int64 → Int32 → BooS → Option (Int64 × BooS)
  | 0, _, _, _ => none
  | n + 1, v1_4, v3_4, s0_4 =>
    if s0_4.1.2.2.2.2 ≤ v3_4 then
      K43 v1_4 s0_4
    else
      xcall (fX1_isOfProfit N v3_4 s0_4.1) fun q6 =>
      xjoin (fun (v1_7 : Int64) (v3_7 : Int32) (s0_7 : BooS) =>
          xlet (v3_7 + (1)) fun x8 =>
          fX3_dropCurtain_L10 N K43 n v1_7 x8 s0_7
        ) fun J37 =>
      if q6 = 0 then
        J37 v1_4 v3_4 s0_4
      else
        xcall (fX3_level N v3_4 s0_4) fun q10 =>
        J37 v1_4 v3_4 q10
def fX3_dropCurtain (N : Nat)  (s0 : BooS) : Option (Int64 × BooS) :=
  xcall (fX1_gain N s0.1) fun q1 =>
  xjoin (fun (v1_2 : Int64) (s0_2 : BooS) =>
      xlet (s0_2.2.2.2.2.2.2 + 1) fun x3 =>
      some (v1_2, (Boos6 s0_2 x3))
    ) fun K43 =>
  fX3_dropCurtain_L10 N K43 N q1 0 s0
set_option maxRecDepth 100000 in
set_option maxHeartbeats 4000000 in
theorem kX3_dropCurtain (l : Launch) (D : va_G) (cA : Nat → ClassId) (ad : Nat → Nat) (h0 : Nat → Nat) (sz N : Nat)  (s0 : BooS) (q : Int64 × BooS) (h : fX3_dropCurtain N s0 = some q) : zM l yX3_dropCurtain cX3_dropCurtain 4 (some .long) ({ frames := 4, cells := 0, slots := 0, locals := 94 }) D cA ad (BooW cA h0 s0) sz [.ref (h0 0)] (some (.long q.1)) (BooW cA h0 q.2) := by
  generalize erm : ({ frames := 4, cells := 0, slots := 0, locals := 94 } : Room) = rm
  refine zMet (by decide) (Nat.le_of_ble_eq_true rfl) ?_
  intro p e s m below meth c hx hb hr hlocks hml hts hown hin hK hP A eA hD hS hA hsz hN hE ls hl
  have hl : lv_has ls 4 [(0, .ref (h0 0))] := hl
  clear eA
  rw [fX3_dropCurtain] at h
  refine lv_aload_n hx hb dX3_dropCurtain_0 rfl (lv_at hl 0 rfl) ?_
  refine va_get (D := D) (ci := 4) (v := .ref (h0 1)) (C := RX3) (T := TX3) (N := 7) hx hb hts iX3 hown hK hP 0 rfl rfl 0 (by decide) (hts _ qfl_X3_12) (fun _ h9 => h9) rfl dX3_dropCurtain_1 ?_
  obtain ⟨q1, c1, h⟩ := x_call h
  refine xCall (w2 := BooW cA h0 s0) (zRunV (n := 0) (As := []) (rest := []) ⟨hx, hb, hml, hown, hts⟩ (kX1_gain l D cA ad (fun k => h0 (k + 1)) _ N s0.1 q1 c1) qco_X1_gain qml_X3_153 qin_X1_gain qse_X1_gain qini_X1 (by decide +kernel) (by rw [← erm]; rfl) hN hE hS hA hK hP hD [1, 2, 3, 4, 5] rfl rfl (q0 := 0) rfl rfl rfl rfl rfl hl.1 rfl (lv_room (Nat.le_of_ble_eq_true rfl)) dX3_dropCurtain_4 ⟨Nat.zero_le _, Nat.zero_le _⟩) hP hD hS hA [1, 2, 3, 4, 5] [0, 6, 7, 8, 9, 10, 11, 12, 13, 14, 15, 16, 17, 18, 19, 20, 21, 22, 23, 24] [0, 20, 21, 22, 23, 24, 1, 2, 3, 4, 5, 6, 7, 8, 9, 10, 11, 12, 13, 14, 15, 16, 17, 18, 19] rfl (wr := [(h0 0, .inr (4, [.ref (h0 1), .ref (h0 6), .ref (h0 12), .ref (h0 19), .ref (h0 22), .int (s0.2.2.2.2.2.1), .int (s0.2.2.2.2.2.2)])), (h0 6, .inr (6, [.ref (h0 7), .ref (h0 8), .ref (h0 9), .ref (h0 10), .ref (h0 11), .int (s0.2.1.2.2.2.2.2)])), (h0 7, .inl (cA 0, 20, .inl (s0.2.1.1))), (h0 8, .inl (cA 0, 20, .inl (s0.2.1.2.1))), (h0 9, .inl (cA 2, 20, .inr (.inl (s0.2.1.2.2.1)))), (h0 10, .inl (cA 0, 20, .inl (s0.2.1.2.2.2.1))), (h0 11, .inl (cA 0, 20, .inl (s0.2.1.2.2.2.2.1))), (h0 12, .inr (8, [.ref (h0 13), .ref (h0 14), .ref (h0 15), .ref (h0 16), .ref (h0 17), .ref (h0 18), .int (s0.2.2.1.2.2.2.2.2.2)])), (h0 13, .inl (cA 0, 6, .inl (s0.2.2.1.1))), (h0 14, .inl (cA 0, 6, .inl (s0.2.2.1.2.1))), (h0 15, .inl (cA 0, 6, .inl (s0.2.2.1.2.2.1))), (h0 16, .inl (cA 0, 6, .inl (s0.2.2.1.2.2.2.1))), (h0 17, .inl (cA 0, 6, .inl (s0.2.2.1.2.2.2.2.1))), (h0 18, .inl (cA 0, 6, .inl (s0.2.2.1.2.2.2.2.2.1))), (h0 19, .inr (10, [.ref (h0 20), .ref (h0 21), .int (s0.2.2.2.1.2.2)])), (h0 20, .inl (cA 0, 8, .inl (s0.2.2.2.1.1))), (h0 21, .inl (cA 0, 8, .inl (s0.2.2.2.1.2.1))), (h0 22, .inr (3, [.ref (h0 23), .ref (h0 24), .int (s0.2.2.2.2.1.2.2.1), .int (s0.2.2.2.2.1.2.2.2)])), (h0 23, .inl (cA 0, 10, .inl (s0.2.2.2.2.1.1))), (h0 24, .inl (cA 0, 10, .inl (s0.2.2.2.2.1.2.1)))]) rfl rfl rfl rfl rfl (fun H locs hP hD hS => ?_)
  refine lv_lstore_n (lv' := [(1, .long q1), (0, .ref (h0 0))]) hx hb dX3_dropCurtain_7 rfl hl (by decide) rfl (fun ls hl => ?_)
  refine lv_iconst (v := 0) hx hb dX3_dropCurtain_8 (by decide) ?_
  refine lv_istore_n (lv' := [(3, .int 0), (1, .long q1), (0, .ref (h0 0))]) hx hb dX3_dropCurtain_9 rfl hl (by decide) rfl (fun ls hl => ?_)
  obtain ⟨K43, eK43, h⟩ := x_join h
  have hJ_K43 : ∀ (v1_2 : Int64) (s0_2 : BooS) (H : Heap) (locs : List Loc), va_P D vwCl (BooW cA h0 s0_2) H → va_D A (BooW cA h0 s0_2) → va_S A s.heap H locs → ∀ ls : Array Slot, lv_has ls 4 [(0, .ref (h0 0)), (1, .long v1_2)] → K43 v1_2 s0_2 = some q → W p l e rm s m ([.ref (h0 0)] : List Value).toArray below meth c H locs 0 0 (MQ below (xQ D cA A (BooW cA h0 q.2) (some (.long q.1))) ([.ref (h0 0)] : List Value).toArray s 0 0 A) (F0 m 43 ls []) := by
    clear h hP hD hS hl
    intro v1_2 s0_2 H locs hP hD hS ls hl h
    rw [eK43] at h
    refine lv_aload_n hx hb dX3_dropCurtain_43 rfl (lv_at hl 0 rfl) ?_
    refine lv_dup hx hb dX3_dropCurtain_44 rfl ?_
    refine va_get (D := D) (ci := 4) (v := .int s0_2.2.2.2.2.2.2) (C := RX3) (T := TX3) (N := 7) hx hb hts iX3 hown hK hP 0 rfl rfl 6 (by decide) (hts _ qfl_X3_66) (fun _ h9 => h9) rfl dX3_dropCurtain_45 ?_
    refine lv_iconst (v := 1) hx hb dX3_dropCurtain_48 (by decide) ?_
    refine lv_iadd hx hb dX3_dropCurtain_49 ?_
    refine lv_topi (fun x3 ex3 => ?_)
    have h := x_let h ex3
    refine va_put (D := D) (ci := 4) (v := .int x3) (ty := .int) (C := RX3) (T := TX3) (N := 7) hx hb hts iX3 tyX3 tyX3_ok nmX3 hown hK hP hD hS 0 rfl rfl 6 (by decide) (hts _ qfl_X3_66) (fun _ h9 => h9) rfl (by decide +kernel) rfl rfl (Nat.le_of_ble_eq_true rfl) dX3_dropCurtain_50 (fun H locs hP hD hS => ?_)
    have hP : va_P D vwCl (BooW cA h0 ((Boos6 s0_2 x3))) H := hP
    have hD : va_D A (BooW cA h0 ((Boos6 s0_2 x3))) := hD
    refine lv_lload_n hx hb dX3_dropCurtain_53 rfl (lv_at hl 1 rfl) ?_
    have h := Option.some.inj h
    subst h
    exact xLret hx hb hr hlocks hP hK hD hS dX3_dropCurtain_54
  have hL10 : ∀ (n : Nat) (v1_4 : Int64) (v3_4 : Int32) (s0_4 : BooS) (H : Heap) (locs : List Loc), va_P D vwCl (BooW cA h0 s0_4) H → va_D A (BooW cA h0 s0_4) → va_S A s.heap H locs → ∀ ls : Array Slot, lv_has ls 4 [(0, .ref (h0 0)), (1, .long v1_4), (3, .int v3_4)] → fX3_dropCurtain_L10 N K43 n v1_4 v3_4 s0_4 = some q → W p l e rm s m ([.ref (h0 0)] : List Value).toArray below meth c H locs 0 0 (MQ below (xQ D cA A (BooW cA h0 q.2) (some (.long q.1))) ([.ref (h0 0)] : List Value).toArray s 0 0 A) (F0 m 10 ls []) := by
    clear h hP hD hS hl
    intro n
    induction n with
    | zero => intro v1_4 v3_4 s0_4 H locs hP hD hS ls hl h; rw [fX3_dropCurtain_L10] at h; cases h
    | succ n ih =>
      intro v1_4 v3_4 s0_4 H locs hP hD hS ls hl h
      rw [fX3_dropCurtain_L10] at h
      refine lv_iload_n hx hb dX3_dropCurtain_10 rfl (lv_at hl 2 rfl) ?_
      refine lv_aload_n hx hb dX3_dropCurtain_11 rfl (lv_at hl 0 rfl) ?_
      refine va_get (D := D) (ci := 4) (v := .ref (h0 1)) (C := RX3) (T := TX3) (N := 7) hx hb hts iX3 hown hK hP 0 rfl rfl 0 (by decide) (hts _ qfl_X3_12) (fun _ h9 => h9) rfl dX3_dropCurtain_12 ?_
      refine va_getN (D := D) (ci := 2) (v := .int s0_4.1.2.2.2.2) (C := RX1) (T := TX1) (N := 5) hx hb hts iX1 hown hK hP 1 rfl rfl 4 (by decide) (hN.use qfn_X3_157) (fun _ h9 => h9) rfl dX3_dropCurtain_15 ?_
      refine lv_icmp_ge (tgt := 43) hx hb dX3_dropCurtain_18 (by decide) (fun c5 => ?_) (fun c5 => ?_)
      · have h := x_t h c5
        exact hJ_K43 v1_4 s0_4 _ _ hP hD hS _ (lv_sub hl [0, 1] rfl) h
      · have h := x_f h c5
        refine lv_aload_n hx hb dX3_dropCurtain_21 rfl (lv_at hl 0 rfl) ?_
        refine va_get (D := D) (ci := 4) (v := .ref (h0 1)) (C := RX3) (T := TX3) (N := 7) hx hb hts iX3 hown hK hP 0 rfl rfl 0 (by decide) (hts _ qfl_X3_12) (fun _ h9 => h9) rfl dX3_dropCurtain_22 ?_
        refine lv_iload_n hx hb dX3_dropCurtain_25 rfl (lv_at hl 2 rfl) ?_
        obtain ⟨q6, c6, h⟩ := x_call h
        refine xCall (w2 := BooW cA h0 s0_4) (zRunV (n := 1) (As := [.int v3_4]) (rest := []) ⟨hx, hb, hml, hown, hts⟩ (kX1_isOfProfit l D cA ad (fun k => h0 (k + 1)) _ N v3_4 s0_4.1 q6 c6) qco_X1_isOfProfit qml_X3_158 qin_X1_isOfProfit qse_X1_isOfProfit qini_X1 (by decide +kernel) (by rw [← erm]; rfl) hN hE hS hA hK hP hD [1, 2, 3, 4, 5] rfl rfl (q0 := 0) rfl rfl rfl rfl rfl hl.1 rfl (lv_room (Nat.le_of_ble_eq_true rfl)) dX3_dropCurtain_26 ⟨Nat.zero_le _, Nat.zero_le _⟩) hP hD hS hA [1, 2, 3, 4, 5] [0, 6, 7, 8, 9, 10, 11, 12, 13, 14, 15, 16, 17, 18, 19, 20, 21, 22, 23, 24] [0, 20, 21, 22, 23, 24, 1, 2, 3, 4, 5, 6, 7, 8, 9, 10, 11, 12, 13, 14, 15, 16, 17, 18, 19] rfl (wr := [(h0 0, .inr (4, [.ref (h0 1), .ref (h0 6), .ref (h0 12), .ref (h0 19), .ref (h0 22), .int (s0_4.2.2.2.2.2.1), .int (s0_4.2.2.2.2.2.2)])), (h0 6, .inr (6, [.ref (h0 7), .ref (h0 8), .ref (h0 9), .ref (h0 10), .ref (h0 11), .int (s0_4.2.1.2.2.2.2.2)])), (h0 7, .inl (cA 0, 20, .inl (s0_4.2.1.1))), (h0 8, .inl (cA 0, 20, .inl (s0_4.2.1.2.1))), (h0 9, .inl (cA 2, 20, .inr (.inl (s0_4.2.1.2.2.1)))), (h0 10, .inl (cA 0, 20, .inl (s0_4.2.1.2.2.2.1))), (h0 11, .inl (cA 0, 20, .inl (s0_4.2.1.2.2.2.2.1))), (h0 12, .inr (8, [.ref (h0 13), .ref (h0 14), .ref (h0 15), .ref (h0 16), .ref (h0 17), .ref (h0 18), .int (s0_4.2.2.1.2.2.2.2.2.2)])), (h0 13, .inl (cA 0, 6, .inl (s0_4.2.2.1.1))), (h0 14, .inl (cA 0, 6, .inl (s0_4.2.2.1.2.1))), (h0 15, .inl (cA 0, 6, .inl (s0_4.2.2.1.2.2.1))), (h0 16, .inl (cA 0, 6, .inl (s0_4.2.2.1.2.2.2.1))), (h0 17, .inl (cA 0, 6, .inl (s0_4.2.2.1.2.2.2.2.1))), (h0 18, .inl (cA 0, 6, .inl (s0_4.2.2.1.2.2.2.2.2.1))), (h0 19, .inr (10, [.ref (h0 20), .ref (h0 21), .int (s0_4.2.2.2.1.2.2)])), (h0 20, .inl (cA 0, 8, .inl (s0_4.2.2.2.1.1))), (h0 21, .inl (cA 0, 8, .inl (s0_4.2.2.2.1.2.1))), (h0 22, .inr (3, [.ref (h0 23), .ref (h0 24), .int (s0_4.2.2.2.2.1.2.2.1), .int (s0_4.2.2.2.2.1.2.2.2)])), (h0 23, .inl (cA 0, 10, .inl (s0_4.2.2.2.2.1.1))), (h0 24, .inl (cA 0, 10, .inl (s0_4.2.2.2.2.1.2.1)))]) rfl rfl rfl rfl rfl (fun H locs hP hD hS => ?_)
        obtain ⟨J37, eJ37, h⟩ := x_join h
        have hJ_J37 : ∀ (v1_7 : Int64) (v3_7 : Int32) (s0_7 : BooS) (H : Heap) (locs : List Loc), va_P D vwCl (BooW cA h0 s0_7) H → va_D A (BooW cA h0 s0_7) → va_S A s.heap H locs → ∀ ls : Array Slot, lv_has ls 4 [(0, .ref (h0 0)), (1, .long v1_7), (3, .int v3_7)] → J37 v1_7 v3_7 s0_7 = some q → W p l e rm s m ([.ref (h0 0)] : List Value).toArray below meth c H locs 0 0 (MQ below (xQ D cA A (BooW cA h0 q.2) (some (.long q.1))) ([.ref (h0 0)] : List Value).toArray s 0 0 A) (F0 m 37 ls []) := by
          clear h hP hD hS hl
          intro v1_7 v3_7 s0_7 H locs hP hD hS ls hl h
          rw [eJ37] at h
          obtain ⟨x8, ex8⟩ : ∃ y : Int32, y = v3_7 + (1) := ⟨_, rfl⟩
          have h := x_let h ex8
          refine lv_iinc (v := x8) (lv' := [(3, .int x8), (0, .ref (h0 0)), (1, .long v1_7)]) hx hb dX3_dropCurtain_37 hl (k := 2) rfl (by rw [ex8]; rfl) (by decide) rfl (fun ls hl => ?_)
          refine lv_goto (tgt := 10) hx hb dX3_dropCurtain_40 (by decide) ?_
          exact ih v1_7 x8 s0_7 _ _ hP hD hS _ (lv_sub hl [1, 2, 0] rfl) h
        refine lv_if_eq (tgt := 37) hx hb dX3_dropCurtain_29 (by decide) (fun c9 => ?_) (fun c9 => ?_)
        · have h := x_t h c9
          exact hJ_J37 v1_4 v3_4 s0_4 _ _ hP hD hS _ (lv_sub hl [0, 1, 2] rfl) h
        · have h := x_f h c9
          refine lv_aload_n hx hb dX3_dropCurtain_32 rfl (lv_at hl 0 rfl) ?_
          refine lv_iload_n hx hb dX3_dropCurtain_33 rfl (lv_at hl 2 rfl) ?_
          obtain ⟨q10, c10, h⟩ := x_call h
          refine xCall (w2 := BooW cA h0 q10) (zRunV (n := 1) (As := [.int v3_4]) (rest := []) ⟨hx, hb, hml, hown, hts⟩ (kX3_level l D cA ad h0 _ N v3_4 s0_4 q10 c10) qco_X3_level qml_X3_161 qin_X3_level qse_X3_level qini_X3 (by decide +kernel) (by rw [← erm]; rfl) hN hE hS hA hK hP hD [0, 1, 2, 3, 4, 5, 6, 7, 8, 9, 10, 11, 12, 13, 14, 15, 16, 17, 18, 19, 20, 21, 22, 23, 24] rfl rfl (q0 := 0) rfl rfl rfl rfl rfl hl.1 rfl (lv_room (Nat.le_of_ble_eq_true rfl)) dX3_dropCurtain_34 ⟨Nat.zero_le _, Nat.zero_le _⟩) hP hD hS hA [0, 1, 2, 3, 4, 5, 6, 7, 8, 9, 10, 11, 12, 13, 14, 15, 16, 17, 18, 19, 20, 21, 22, 23, 24] [] [0, 1, 2, 3, 4, 5, 6, 7, 8, 9, 10, 11, 12, 13, 14, 15, 16, 17, 18, 19, 20, 21, 22, 23, 24] rfl (wr := []) rfl rfl rfl rfl rfl (fun H locs hP hD hS => ?_)
          exact hJ_J37 v1_4 v3_4 q10 _ _ hP hD hS _ (lv_sub hl [0, 1, 2] rfl) h
  exact hL10 N q1 0 s0 _ _ hP hD hS _ (lv_sub hl [2, 1, 0] rfl) h
