/-! method by method: what it computes, and that its bytes compute it -/
def fX2_copyFrom (N : Nat)  (s0 : BilS) (s1 : BilS) : Option (BilS × BilS) :=
  xlet (va_cpy s1.1 s0.1 0 0 10) fun g1 =>
  xlet (va_cpy s1.2.1 s0.2.1 0 0 10) fun g2 =>
  some ((Bils1 (Bils0 s1 g1) g2), s1)
set_option maxRecDepth 100000 in
set_option maxHeartbeats 4000000 in
theorem kX2_copyFrom (l : Launch) (D : va_G) (cA : Nat → ClassId) (ad : Nat → Nat) (h0 : Nat → Nat) (h1 : Nat → Nat) (sz N : Nat)  (s0 : BilS) (s1 : BilS) (q : BilS × BilS) (h : fX2_copyFrom N s0 s1 = some q) : zM l yX2_copyFrom cX2_copyFrom 2 none ({ frames := 1, cells := 0, slots := 0, locals := 40 }) D cA ad (BilW cA h0 s0 ++ BilW cA h1 s1) sz [.ref (h0 0), .ref (h1 0)] (none) (BilW cA h0 q.1 ++ BilW cA h1 q.2) := by
  generalize erm : ({ frames := 1, cells := 0, slots := 0, locals := 40 } : Room) = rm
  refine zMet (by decide) (Nat.le_of_ble_eq_true rfl) ?_
  intro p e s m below meth c hx hb hr hlocks hml hts hown hin hK hP A eA hD hS hA hsz hN hE ls hl
  have hl : lv_has ls 2 [(0, .ref (h0 0)), (1, .ref (h1 0))] := hl
  clear eA
  rw [fX2_copyFrom] at h
  refine lv_aload_n hx hb dX2_copyFrom_0 rfl (lv_at hl 1 rfl) ?_
  refine va_get (D := D) (ci := 3) (v := .ref (h1 1)) (C := RX2) (T := TX2) (N := 4) hx hb hts iX2 hown hK hP 3 rfl rfl 0 (by decide) (hts _ qfl_X2_9) (fun _ h9 => h9) rfl dX2_copyFrom_1 ?_
  refine lv_iconst (v := 0) hx hb dX2_copyFrom_4 (by decide) ?_
  refine lv_aload_n hx hb dX2_copyFrom_5 rfl (lv_at hl 0 rfl) ?_
  refine va_get (D := D) (ci := 3) (v := .ref (h0 1)) (C := RX2) (T := TX2) (N := 4) hx hb hts iX2 hown hK hP 0 rfl rfl 0 (by decide) (hts _ qfl_X2_9) (fun _ h9 => h9) rfl dX2_copyFrom_6 ?_
  refine lv_iconst (v := 0) hx hb dX2_copyFrom_9 (by decide) ?_
  refine lv_bipush (v := 10) hx hb dX2_copyFrom_10 (by decide) ?_
  refine va_copyi (n := 10) (sp := 0) (dp := 0) (ty := .int) hx hb (hml.trans hl.1.symm) hown (hts _ qma_X2_18) (hts _ qnat_copy) (hts _ qsta_copy) (hts _ qini_sys) hK hP hD hS 4 1 0 0 rfl rfl rfl rfl rfl (by decide) (by decide) (by decide) (by decide) (by decide) (fun _ _ => rfl) (by rw [← erm]; exact Nat.le_of_ble_eq_true rfl) (by rw [← erm]; exact Nat.le_of_ble_eq_true rfl) dX2_copyFrom_12 (fun H locs hP hD hS => ?_)
  obtain ⟨g1, eg1⟩ : ∃ y : Nat → Int32, y = va_cpy s1.1 s0.1 0 0 10 := ⟨_, rfl⟩
  have h := x_let h eg1
  have hP : va_P D vwCl (BilW cA h0 ((Bils0 s0 g1)) ++ BilW cA h1 s1) H := by rw [eg1]; exact hP
  have hD : va_D A (BilW cA h0 ((Bils0 s0 g1)) ++ BilW cA h1 s1) := by rw [eg1]; exact hD
  refine lv_aload_n hx hb dX2_copyFrom_15 rfl (lv_at hl 1 rfl) ?_
  refine va_get (D := D) (ci := 3) (v := .ref (h1 2)) (C := RX2) (T := TX2) (N := 4) hx hb hts iX2 hown hK hP 3 rfl rfl 1 (by decide) (hts _ qfl_X2_15) (fun _ h9 => h9) rfl dX2_copyFrom_16 ?_
  refine lv_iconst (v := 0) hx hb dX2_copyFrom_19 (by decide) ?_
  refine lv_aload_n hx hb dX2_copyFrom_20 rfl (lv_at hl 0 rfl) ?_
  refine va_get (D := D) (ci := 3) (v := .ref (h0 2)) (C := RX2) (T := TX2) (N := 4) hx hb hts iX2 hown hK hP 0 rfl rfl 1 (by decide) (hts _ qfl_X2_15) (fun _ h9 => h9) rfl dX2_copyFrom_21 ?_
  refine lv_iconst (v := 0) hx hb dX2_copyFrom_24 (by decide) ?_
  refine lv_bipush (v := 10) hx hb dX2_copyFrom_25 (by decide) ?_
  refine va_copyi (n := 10) (sp := 0) (dp := 0) (ty := .int) hx hb (hml.trans hl.1.symm) hown (hts _ qma_X2_18) (hts _ qnat_copy) (hts _ qsta_copy) (hts _ qini_sys) hK hP hD hS 5 2 0 0 rfl rfl rfl rfl rfl (by decide) (by decide) (by decide) (by decide) (by decide) (fun _ _ => rfl) (by rw [← erm]; exact Nat.le_of_ble_eq_true rfl) (by rw [← erm]; exact Nat.le_of_ble_eq_true rfl) dX2_copyFrom_27 (fun H locs hP hD hS => ?_)
  obtain ⟨g2, eg2⟩ : ∃ y : Nat → Int32, y = va_cpy s1.2.1 s0.2.1 0 0 10 := ⟨_, rfl⟩
  have h := x_let h eg2
  have hP : va_P D vwCl (BilW cA h0 ((Bils1 (Bils0 s0 g1) g2)) ++ BilW cA h1 s1) H := by rw [eg2]; exact hP
  have hD : va_D A (BilW cA h0 ((Bils1 (Bils0 s0 g1) g2)) ++ BilW cA h1 s1) := by rw [eg2]; exact hD
  refine lv_aload_n hx hb dX2_copyFrom_30 rfl (lv_at hl 0 rfl) ?_
  refine lv_aload_n hx hb dX2_copyFrom_31 rfl (lv_at hl 1 rfl) ?_
  refine va_get (D := D) (ci := 3) (v := .int s1.2.2.1) (C := RX2) (T := TX2) (N := 4) hx hb hts iX2 hown hK hP 3 rfl rfl 2 (by decide) (hts _ qfl_X2_24) (fun _ h9 => h9) rfl dX2_copyFrom_32 ?_
  refine va_put (D := D) (ci := 3) (v := .int s1.2.2.1) (ty := .int) (C := RX2) (T := TX2) (N := 4) hx hb hts iX2 tyX2 tyX2_ok nmX2 hown hK hP hD hS 0 rfl rfl 2 (by decide) (hts _ qfl_X2_24) (fun _ h9 => h9) rfl (by decide +kernel) rfl rfl (Nat.le_of_ble_eq_true rfl) dX2_copyFrom_35 (fun H locs hP hD hS => ?_)
  have hP : va_P D vwCl (BilW cA h0 ((Bils3 (Bils1 (Bils0 s1 g1) g2) s0.2.2.2)) ++ BilW cA h1 s1) H := hP
  have hD : va_D A (BilW cA h0 ((Bils3 (Bils1 (Bils0 s1 g1) g2) s0.2.2.2)) ++ BilW cA h1 s1) := hD
  refine lv_aload_n hx hb dX2_copyFrom_38 rfl (lv_at hl 0 rfl) ?_
  refine lv_aload_n hx hb dX2_copyFrom_39 rfl (lv_at hl 1 rfl) ?_
  refine va_get (D := D) (ci := 3) (v := .int s1.2.2.2) (C := RX2) (T := TX2) (N := 4) hx hb hts iX2 hown hK hP 3 rfl rfl 3 (by decide) (hts _ qfl_X2_28) (fun _ h9 => h9) rfl dX2_copyFrom_40 ?_
  refine va_put (D := D) (ci := 3) (v := .int s1.2.2.2) (ty := .int) (C := RX2) (T := TX2) (N := 4) hx hb hts iX2 tyX2 tyX2_ok nmX2 hown hK hP hD hS 0 rfl rfl 3 (by decide) (hts _ qfl_X2_28) (fun _ h9 => h9) rfl (by decide +kernel) rfl rfl (Nat.le_of_ble_eq_true rfl) dX2_copyFrom_43 (fun H locs hP hD hS => ?_)
  have hP : va_P D vwCl (BilW cA h0 ((Bils1 (Bils0 s1 g1) g2)) ++ BilW cA h1 s1) H := hP
  have hD : va_D A (BilW cA h0 ((Bils1 (Bils0 s1 g1) g2)) ++ BilW cA h1 s1) := hD
  have h := Option.some.inj h
  subst h
  exact xVret hx hb hr hlocks hP hK hD hS dX2_copyFrom_46
def fX2_placeOf_L2 (N : Nat) (s0 : BilS) (K28 : Unit → Option (Int32)) : Nat → Int32 → Int32 → Option (Int32)
  | 0, _, _ => none
  | n + 1, v1_2, v2_2 =>
    if s0.2.2.1 ≤ v2_2 then
      K28 ()
    else
      xrd 10 v2_2 fun k4 =>
      if (s0.1 k4) = v1_2 then
        some v2_2
      else
        xlet (v2_2 + (1)) fun x6 =>
        fX2_placeOf_L2 N s0 K28 n v1_2 x6
def fX2_placeOf (N : Nat) (a1 : Int32) (s0 : BilS) : Option (Int32) :=
  xjoin (fun (u_1 : Unit) =>
      some (-1)
    ) fun K28 =>
  fX2_placeOf_L2 N s0 K28 N a1 0
set_option maxRecDepth 100000 in
set_option maxHeartbeats 4000000 in
theorem kX2_placeOf (l : Launch) (D : va_G) (cA : Nat → ClassId) (ad : Nat → Nat) (h0 : Nat → Nat) (sz N : Nat) (a1 : Int32) (s0 : BilS) (q : Int32) (h : fX2_placeOf N a1 s0 = some q) : zM l yX2_placeOf cX2_placeOf 3 (some .int) ({ frames := 0, cells := 0, slots := 0, locals := 0 }) D cA ad (BilW cA h0 s0) sz [.ref (h0 0), .int a1] (some (.int q)) (BilW cA h0 s0) := by
  generalize erm : ({ frames := 0, cells := 0, slots := 0, locals := 0 } : Room) = rm
  refine zMet (by decide) (Nat.le_of_ble_eq_true rfl) ?_
  intro p e s m below meth c hx hb hr hlocks hml hts hown hin hK hP A eA hD hS hA hsz hN hE ls hl
  have hl : lv_has ls 3 [(0, .ref (h0 0)), (1, .int a1)] := hl
  clear eA
  rw [fX2_placeOf] at h
  refine lv_iconst (v := 0) hx hb dX2_placeOf_0 (by decide) ?_
  refine lv_istore_n (lv' := [(2, .int 0), (0, .ref (h0 0)), (1, .int a1)]) hx hb dX2_placeOf_1 rfl hl (by decide) rfl (fun ls hl => ?_)
  obtain ⟨K28, eK28, h⟩ := x_join h
  have hJ_K28 : ∀ (u_1 : Unit) (H : Heap) (locs : List Loc), va_P D vwCl (BilW cA h0 s0) H → va_D A (BilW cA h0 s0) → va_S A s.heap H locs → ∀ ls : Array Slot, lv_has ls 3 [] → K28 u_1 = some q → W p l e rm s m ([.ref (h0 0), .int a1] : List Value).toArray below meth c H locs 0 0 (MQ below (xQ D cA A (BilW cA h0 s0) (some (.int q))) ([.ref (h0 0), .int a1] : List Value).toArray s 0 0 A) (F0 m 28 ls []) := by
    clear h hP hD hS hl
    intro u_1 H locs hP hD hS ls hl h
    rw [eK28] at h
    refine lv_iconst (v := (-1)) hx hb dX2_placeOf_28 (by decide) ?_
    have h := Option.some.inj h
    subst h
    exact xIret hx hb hr hlocks hP hK hD hS dX2_placeOf_29
  have hL2 : ∀ (n : Nat) (v1_2 : Int32) (v2_2 : Int32) (H : Heap) (locs : List Loc), va_P D vwCl (BilW cA h0 s0) H → va_D A (BilW cA h0 s0) → va_S A s.heap H locs → ∀ ls : Array Slot, lv_has ls 3 [(0, .ref (h0 0)), (1, .int v1_2), (2, .int v2_2)] → fX2_placeOf_L2 N s0 K28 n v1_2 v2_2 = some q → W p l e rm s m ([.ref (h0 0), .int a1] : List Value).toArray below meth c H locs 0 0 (MQ below (xQ D cA A (BilW cA h0 s0) (some (.int q))) ([.ref (h0 0), .int a1] : List Value).toArray s 0 0 A) (F0 m 2 ls []) := by
    clear h hP hD hS hl
    intro n
    induction n with
    | zero => intro v1_2 v2_2 H locs hP hD hS ls hl h; rw [fX2_placeOf_L2] at h; cases h
    | succ n ih =>
      intro v1_2 v2_2 H locs hP hD hS ls hl h
      rw [fX2_placeOf_L2] at h
      refine lv_iload_n hx hb dX2_placeOf_2 rfl (lv_at hl 2 rfl) ?_
      refine lv_aload_n hx hb dX2_placeOf_3 rfl (lv_at hl 0 rfl) ?_
      refine va_get (D := D) (ci := 3) (v := .int s0.2.2.1) (C := RX2) (T := TX2) (N := 4) hx hb hts iX2 hown hK hP 0 rfl rfl 2 (by decide) (hts _ qfl_X2_24) (fun _ h9 => h9) rfl dX2_placeOf_4 ?_
      refine lv_icmp_ge (tgt := 28) hx hb dX2_placeOf_7 (by decide) (fun c3 => ?_) (fun c3 => ?_)
      · have h := x_t h c3
        exact hJ_K28 () _ _ hP hD hS _ (lv_sub hl [] rfl) h
      · have h := x_f h c3
        refine lv_aload_n hx hb dX2_placeOf_10 rfl (lv_at hl 0 rfl) ?_
        refine va_get (D := D) (ci := 3) (v := .ref (h0 1)) (C := RX2) (T := TX2) (N := 4) hx hb hts iX2 hown hK hP 0 rfl rfl 0 (by decide) (hts _ qfl_X2_9) (fun _ h9 => h9) rfl dX2_placeOf_11 ?_
        refine lv_iload_n hx hb dX2_placeOf_14 rfl (lv_at hl 2 rfl) ?_
        obtain ⟨k4, hk4, h⟩ := x_rd h
        refine xIald hx hb hK hP 1 0 rfl rfl hk4 dX2_placeOf_15 ?_
        refine lv_iload_n hx hb dX2_placeOf_16 rfl (lv_at hl 1 rfl) ?_
        refine lv_icmp_ne (tgt := 22) hx hb dX2_placeOf_17 (by decide) (fun c5 => ?_) (fun c5 => ?_)
        · have h := x_f h c5
          obtain ⟨x6, ex6⟩ : ∃ y : Int32, y = v2_2 + (1) := ⟨_, rfl⟩
          have h := x_let h ex6
          refine lv_iinc (v := x6) (lv' := [(2, .int x6), (0, .ref (h0 0)), (1, .int v1_2)]) hx hb dX2_placeOf_22 hl (k := 2) rfl (by rw [ex6]; rfl) (by decide) rfl (fun ls hl => ?_)
          refine lv_goto (tgt := 2) hx hb dX2_placeOf_25 (by decide) ?_
          exact ih v1_2 x6 _ _ hP hD hS _ (lv_sub hl [1, 2, 0] rfl) h
        · have h := x_t h c5
          refine lv_iload_n hx hb dX2_placeOf_20 rfl (lv_at hl 2 rfl) ?_
          have h := Option.some.inj h
          subst h
          exact xIret hx hb hr hlocks hP hK hD hS dX2_placeOf_21
  exact hL2 N a1 0 _ _ hP hD hS _ (lv_sub hl [1, 2, 0] rfl) h
def fX2_idAt (N : Nat) (a1 : Int32) (s0 : BilS) : Option (Int32) :=
  xrd 10 a1 fun k1 =>
  some (s0.1 k1)
set_option maxRecDepth 100000 in
set_option maxHeartbeats 4000000 in
theorem kX2_idAt (l : Launch) (D : va_G) (cA : Nat → ClassId) (ad : Nat → Nat) (h0 : Nat → Nat) (sz N : Nat) (a1 : Int32) (s0 : BilS) (q : Int32) (h : fX2_idAt N a1 s0 = some q) : zM l yX2_idAt cX2_idAt 2 (some .int) ({ frames := 0, cells := 0, slots := 0, locals := 0 }) D cA ad (BilW cA h0 s0) sz [.ref (h0 0), .int a1] (some (.int q)) (BilW cA h0 s0) := by
  generalize erm : ({ frames := 0, cells := 0, slots := 0, locals := 0 } : Room) = rm
  refine zMet (by decide) (Nat.le_of_ble_eq_true rfl) ?_
  intro p e s m below meth c hx hb hr hlocks hml hts hown hin hK hP A eA hD hS hA hsz hN hE ls hl
  have hl : lv_has ls 2 [(0, .ref (h0 0)), (1, .int a1)] := hl
  clear eA
  rw [fX2_idAt] at h
  refine lv_aload_n hx hb dX2_idAt_0 rfl (lv_at hl 0 rfl) ?_
  refine va_get (D := D) (ci := 3) (v := .ref (h0 1)) (C := RX2) (T := TX2) (N := 4) hx hb hts iX2 hown hK hP 0 rfl rfl 0 (by decide) (hts _ qfl_X2_9) (fun _ h9 => h9) rfl dX2_idAt_1 ?_
  refine lv_iload_n hx hb dX2_idAt_4 rfl (lv_at hl 1 rfl) ?_
  obtain ⟨k1, hk1, h⟩ := x_rd h
  refine xIald hx hb hK hP 1 0 rfl rfl hk1 dX2_idAt_5 ?_
  have h := Option.some.inj h
  subst h
  exact xIret hx hb hr hlocks hP hK hD hS dX2_idAt_6
def fX2_amountAt (N : Nat) (a1 : Int32) (s0 : BilS) : Option (Int32) :=
  xrd 10 a1 fun k1 =>
  some (s0.2.1 k1)
set_option maxRecDepth 100000 in
set_option maxHeartbeats 4000000 in
theorem kX2_amountAt (l : Launch) (D : va_G) (cA : Nat → ClassId) (ad : Nat → Nat) (h0 : Nat → Nat) (sz N : Nat) (a1 : Int32) (s0 : BilS) (q : Int32) (h : fX2_amountAt N a1 s0 = some q) : zM l yX2_amountAt cX2_amountAt 2 (some .int) ({ frames := 0, cells := 0, slots := 0, locals := 0 }) D cA ad (BilW cA h0 s0) sz [.ref (h0 0), .int a1] (some (.int q)) (BilW cA h0 s0) := by
  generalize erm : ({ frames := 0, cells := 0, slots := 0, locals := 0 } : Room) = rm
  refine zMet (by decide) (Nat.le_of_ble_eq_true rfl) ?_
  intro p e s m below meth c hx hb hr hlocks hml hts hown hin hK hP A eA hD hS hA hsz hN hE ls hl
  have hl : lv_has ls 2 [(0, .ref (h0 0)), (1, .int a1)] := hl
  clear eA
  rw [fX2_amountAt] at h
  refine lv_aload_n hx hb dX2_amountAt_0 rfl (lv_at hl 0 rfl) ?_
  refine va_get (D := D) (ci := 3) (v := .ref (h0 2)) (C := RX2) (T := TX2) (N := 4) hx hb hts iX2 hown hK hP 0 rfl rfl 1 (by decide) (hts _ qfl_X2_15) (fun _ h9 => h9) rfl dX2_amountAt_1 ?_
  refine lv_iload_n hx hb dX2_amountAt_4 rfl (lv_at hl 1 rfl) ?_
  obtain ⟨k1, hk1, h⟩ := x_rd h
  refine xIald hx hb hK hP 2 0 rfl rfl hk1 dX2_amountAt_5 ?_
  have h := Option.some.inj h
  subst h
  exact xIret hx hb hr hlocks hP hK hD hS dX2_amountAt_6
def fX2_total_L4 (N : Nat) (s0 : BilS) (K27 : Int32 → Option (Int32)) : Nat → Int32 → Int32 → Option (Int32)
  | 0, _, _ => none
  | n + 1, v1_2, v2_2 =>
    if s0.2.2.1 ≤ v2_2 then
      K27 v1_2
    else
      xrd 10 v2_2 fun k4 =>
      xlet (v1_2 + (s0.2.1 k4)) fun x5 =>
      xlet (v2_2 + (1)) fun x6 =>
      fX2_total_L4 N s0 K27 n x5 x6
def fX2_total (N : Nat)  (s0 : BilS) : Option (Int32) :=
  xjoin (fun (v1_1 : Int32) =>
      some v1_1
    ) fun K27 =>
  fX2_total_L4 N s0 K27 N 0 0
set_option maxRecDepth 100000 in
set_option maxHeartbeats 4000000 in
theorem kX2_total (l : Launch) (D : va_G) (cA : Nat → ClassId) (ad : Nat → Nat) (h0 : Nat → Nat) (sz N : Nat)  (s0 : BilS) (q : Int32) (h : fX2_total N s0 = some q) : zM l yX2_total cX2_total 3 (some .int) ({ frames := 0, cells := 0, slots := 0, locals := 0 }) D cA ad (BilW cA h0 s0) sz [.ref (h0 0)] (some (.int q)) (BilW cA h0 s0) := by
  generalize erm : ({ frames := 0, cells := 0, slots := 0, locals := 0 } : Room) = rm
  refine zMet (by decide) (Nat.le_of_ble_eq_true rfl) ?_
  intro p e s m below meth c hx hb hr hlocks hml hts hown hin hK hP A eA hD hS hA hsz hN hE ls hl
  have hl : lv_has ls 3 [(0, .ref (h0 0))] := hl
  clear eA
  rw [fX2_total] at h
  refine lv_iconst (v := 0) hx hb dX2_total_0 (by decide) ?_
  refine lv_istore_n (lv' := [(1, .int 0), (0, .ref (h0 0))]) hx hb dX2_total_1 rfl hl (by decide) rfl (fun ls hl => ?_)
  refine lv_iconst (v := 0) hx hb dX2_total_2 (by decide) ?_
  refine lv_istore_n (lv' := [(2, .int 0), (1, .int 0), (0, .ref (h0 0))]) hx hb dX2_total_3 rfl hl (by decide) rfl (fun ls hl => ?_)
  obtain ⟨K27, eK27, h⟩ := x_join h
  have hJ_K27 : ∀ (v1_1 : Int32) (H : Heap) (locs : List Loc), va_P D vwCl (BilW cA h0 s0) H → va_D A (BilW cA h0 s0) → va_S A s.heap H locs → ∀ ls : Array Slot, lv_has ls 3 [(1, .int v1_1)] → K27 v1_1 = some q → W p l e rm s m ([.ref (h0 0)] : List Value).toArray below meth c H locs 0 0 (MQ below (xQ D cA A (BilW cA h0 s0) (some (.int q))) ([.ref (h0 0)] : List Value).toArray s 0 0 A) (F0 m 27 ls []) := by
    clear h hP hD hS hl
    intro v1_1 H locs hP hD hS ls hl h
    rw [eK27] at h
    refine lv_iload_n hx hb dX2_total_27 rfl (lv_at hl 0 rfl) ?_
    have h := Option.some.inj h
    subst h
    exact xIret hx hb hr hlocks hP hK hD hS dX2_total_28
  have hL4 : ∀ (n : Nat) (v1_2 : Int32) (v2_2 : Int32) (H : Heap) (locs : List Loc), va_P D vwCl (BilW cA h0 s0) H → va_D A (BilW cA h0 s0) → va_S A s.heap H locs → ∀ ls : Array Slot, lv_has ls 3 [(0, .ref (h0 0)), (1, .int v1_2), (2, .int v2_2)] → fX2_total_L4 N s0 K27 n v1_2 v2_2 = some q → W p l e rm s m ([.ref (h0 0)] : List Value).toArray below meth c H locs 0 0 (MQ below (xQ D cA A (BilW cA h0 s0) (some (.int q))) ([.ref (h0 0)] : List Value).toArray s 0 0 A) (F0 m 4 ls []) := by
    clear h hP hD hS hl
    intro n
    induction n with
    | zero => intro v1_2 v2_2 H locs hP hD hS ls hl h; rw [fX2_total_L4] at h; cases h
    | succ n ih =>
      intro v1_2 v2_2 H locs hP hD hS ls hl h
      rw [fX2_total_L4] at h
      refine lv_iload_n hx hb dX2_total_4 rfl (lv_at hl 2 rfl) ?_
      refine lv_aload_n hx hb dX2_total_5 rfl (lv_at hl 0 rfl) ?_
      refine va_get (D := D) (ci := 3) (v := .int s0.2.2.1) (C := RX2) (T := TX2) (N := 4) hx hb hts iX2 hown hK hP 0 rfl rfl 2 (by decide) (hts _ qfl_X2_24) (fun _ h9 => h9) rfl dX2_total_6 ?_
      refine lv_icmp_ge (tgt := 27) hx hb dX2_total_9 (by decide) (fun c3 => ?_) (fun c3 => ?_)
      · have h := x_t h c3
        exact hJ_K27 v1_2 _ _ hP hD hS _ (lv_sub hl [1] rfl) h
      · have h := x_f h c3
        refine lv_iload_n hx hb dX2_total_12 rfl (lv_at hl 1 rfl) ?_
        refine lv_aload_n hx hb dX2_total_13 rfl (lv_at hl 0 rfl) ?_
        refine va_get (D := D) (ci := 3) (v := .ref (h0 2)) (C := RX2) (T := TX2) (N := 4) hx hb hts iX2 hown hK hP 0 rfl rfl 1 (by decide) (hts _ qfl_X2_15) (fun _ h9 => h9) rfl dX2_total_14 ?_
        refine lv_iload_n hx hb dX2_total_17 rfl (lv_at hl 2 rfl) ?_
        obtain ⟨k4, hk4, h⟩ := x_rd h
        refine xIald hx hb hK hP 2 0 rfl rfl hk4 dX2_total_18 ?_
        refine lv_iadd hx hb dX2_total_19 ?_
        refine lv_topi (fun x5 ex5 => ?_)
        have h := x_let h ex5
        refine lv_istore_n (lv' := [(1, .int x5), (0, .ref (h0 0)), (2, .int v2_2)]) hx hb dX2_total_20 rfl hl (by decide) rfl (fun ls hl => ?_)
        obtain ⟨x6, ex6⟩ : ∃ y : Int32, y = v2_2 + (1) := ⟨_, rfl⟩
        have h := x_let h ex6
        refine lv_iinc (v := x6) (lv' := [(2, .int x6), (1, .int x5), (0, .ref (h0 0))]) hx hb dX2_total_21 hl (k := 2) rfl (by rw [ex6]; rfl) (by decide) rfl (fun ls hl => ?_)
        refine lv_goto (tgt := 4) hx hb dX2_total_24 (by decide) ?_
        exact ih x5 x6 _ _ hP hD hS _ (lv_sub hl [2, 1, 0] rfl) h
  exact hL4 N 0 0 _ _ hP hD hS _ (lv_sub hl [2, 1, 0] rfl) h
def fX2_faultOfNew (N : Nat) (a1 : Int32) (s0 : BilS) : Option (Nat) :=
  xcall (fX12_isWithin N a1 1 999) fun q1 =>
  if q1 = 0 then
    some 3
  else
    xjoin (fun (t0_3 : Nat) =>
        some t0_3
      ) fun J33 =>
    if 10 ≤ s0.2.2.1 then
      J33 4
    else
      J33 0
set_option maxRecDepth 100000 in
set_option maxHeartbeats 4000000 in
theorem kX2_faultOfNew (l : Launch) (D : va_G) (cA : Nat → ClassId) (ad : Nat → Nat) (h0 : Nat → Nat) (sz N : Nat) (a1 : Int32) (s0 : BilS) (q : Nat) (h : fX2_faultOfNew N a1 s0 = some q) : zM l yX2_faultOfNew cX2_faultOfNew 2 (some (.object "TheatreLedger$Fault")) ({ frames := 1, cells := 0, slots := 0, locals := 22 }) D cA ad (BilW cA h0 s0) sz [.ref (h0 0), .int a1] (some (.ref (ad q))) (BilW cA h0 s0) := by
  generalize erm : ({ frames := 1, cells := 0, slots := 0, locals := 22 } : Room) = rm
  refine zMet (by decide) (Nat.le_of_ble_eq_true rfl) ?_
  intro p e s m below meth c hx hb hr hlocks hml hts hown hin hK hP A eA hD hS hA hsz hN hE ls hl
  have hl : lv_has ls 2 [(0, .ref (h0 0)), (1, .int a1)] := hl
  clear eA
  rw [fX2_faultOfNew] at h
  refine lv_iload_n hx hb dX2_faultOfNew_0 rfl (lv_at hl 1 rfl) ?_
  refine lv_iconst (v := 1) hx hb dX2_faultOfNew_1 (by decide) ?_
  refine lv_sipush (v := 999) hx hb dX2_faultOfNew_2 (by decide) ?_
  obtain ⟨q1, c1, h⟩ := x_call h
  refine xCall (w2 := BilW cA h0 s0) (xRunSN (n := 3) (As := [.int a1, .int 1, .int 999]) (rest := []) ⟨hx, hb, hml, hown, hts⟩ (kX12_isWithin l D cA  _ N a1 1 999 q1 c1) qco_X12_isWithin hN qmn_X2_31 qst_X12_isWithin qini_X12 (by decide +kernel) (by rw [← erm]; rfl) hK rfl rfl hl.1 rfl (lv_room (Nat.le_of_ble_eq_true rfl)) dX2_faultOfNew_5 ⟨Nat.zero_le _, Nat.zero_le _⟩) hP hD hS hA [] [0, 1, 2] [0, 1, 2] rfl (wr := [(h0 0, .inr (3, [.ref (h0 1), .ref (h0 2), .int (s0.2.2.1), .int (s0.2.2.2)])), (h0 1, .inl (cA 0, 10, .inl (s0.1))), (h0 2, .inl (cA 0, 10, .inl (s0.2.1)))]) rfl rfl rfl rfl rfl (fun H locs hP hD hS => ?_)
  refine lv_if_ne (tgt := 15) hx hb dX2_faultOfNew_8 (by decide) (fun c2 => ?_) (fun c2 => ?_)
  · have h := x_f h c2
    refine lv_aload_n hx hb dX2_faultOfNew_15 rfl (lv_at hl 0 rfl) ?_
    refine va_get (D := D) (ci := 3) (v := .int s0.2.2.1) (C := RX2) (T := TX2) (N := 4) hx hb hts iX2 hown hK hP 0 rfl rfl 2 (by decide) (hts _ qfl_X2_24) (fun _ h9 => h9) rfl dX2_faultOfNew_16 ?_
    refine lv_bipush (v := 10) hx hb dX2_faultOfNew_19 (by decide) ?_
    obtain ⟨J33, eJ33, h⟩ := x_join h
    have hJ_J33 : ∀ (t0_3 : Nat) (H : Heap) (locs : List Loc), va_P D vwCl (BilW cA h0 s0) H → va_D A (BilW cA h0 s0) → va_S A s.heap H locs → ∀ ls : Array Slot, lv_has ls 2 [] → J33 t0_3 = some q → W p l e rm s m ([.ref (h0 0), .int a1] : List Value).toArray below meth c H locs 0 0 (MQ below (xQ D cA A (BilW cA h0 s0) (some (.ref (ad q)))) ([.ref (h0 0), .int a1] : List Value).toArray s 0 0 A) (F0 m 33 ls [.ref (ad t0_3)]) := by
      clear h hP hD hS hl
      intro t0_3 H locs hP hD hS ls hl h
      rw [eJ33] at h
      have h := Option.some.inj h
      subst h
      exact zAret (a := ad t0_3) hx hb hr hlocks hP hK hD hS dX2_faultOfNew_33
    refine lv_icmp_ge (tgt := 30) hx hb dX2_faultOfNew_21 (by decide) (fun c4 => ?_) (fun c4 => ?_)
    · have h := x_t h c4
      refine va_gets hx hb (xE.f4 hE) hS hown (hts _ qfl_X2_44) (fun _ h9 => h9) dX2_faultOfNew_30 ?_
      exact hJ_J33 4 _ _ hP hD hS _ (lv_sub hl [] rfl) h
    · have h := x_f h c4
      refine va_gets hx hb (xE.f0 hE) hS hown (hts _ qfl_X2_41) (fun _ h9 => h9) dX2_faultOfNew_24 ?_
      refine lv_goto (tgt := 33) hx hb dX2_faultOfNew_27 (by decide) ?_
      exact hJ_J33 0 _ _ hP hD hS _ (lv_sub hl [] rfl) h
  · have h := x_t h c2
    refine va_gets hx hb (xE.f3 hE) hS hown (hts _ qfl_X2_35) (fun _ h9 => h9) dX2_faultOfNew_11 ?_
    have h := Option.some.inj h
    subst h
    exact zAret (a := ad 3) hx hb hr hlocks hP hK hD hS dX2_faultOfNew_14
def fX2_faultOfPayment (N : Nat) (a1 : Int32) (s0 : BilS) : Option (Nat) :=
  xcall (fX12_isWithin N a1 1 999) fun q1 =>
  if q1 = 0 then
    some 3
  else
    xcall (fX2_total N s0) fun q3 =>
    xjoin (fun (t0_4 : Nat) =>
        some t0_4
      ) fun J32 =>
    if q3 < a1 then
      J32 4
    else
      J32 0
set_option maxRecDepth 100000 in
set_option maxHeartbeats 4000000 in
theorem kX2_faultOfPayment (l : Launch) (D : va_G) (cA : Nat → ClassId) (ad : Nat → Nat) (h0 : Nat → Nat) (sz N : Nat) (a1 : Int32) (s0 : BilS) (q : Nat) (h : fX2_faultOfPayment N a1 s0 = some q) : zM l yX2_faultOfPayment cX2_faultOfPayment 2 (some (.object "TheatreLedger$Fault")) ({ frames := 1, cells := 0, slots := 0, locals := 22 }) D cA ad (BilW cA h0 s0) sz [.ref (h0 0), .int a1] (some (.ref (ad q))) (BilW cA h0 s0) := by
  generalize erm : ({ frames := 1, cells := 0, slots := 0, locals := 22 } : Room) = rm
  refine zMet (by decide) (Nat.le_of_ble_eq_true rfl) ?_
  intro p e s m below meth c hx hb hr hlocks hml hts hown hin hK hP A eA hD hS hA hsz hN hE ls hl
  have hl : lv_has ls 2 [(0, .ref (h0 0)), (1, .int a1)] := hl
  clear eA
  rw [fX2_faultOfPayment] at h
  refine lv_iload_n hx hb dX2_faultOfPayment_0 rfl (lv_at hl 1 rfl) ?_
  refine lv_iconst (v := 1) hx hb dX2_faultOfPayment_1 (by decide) ?_
  refine lv_sipush (v := 999) hx hb dX2_faultOfPayment_2 (by decide) ?_
  obtain ⟨q1, c1, h⟩ := x_call h
  refine xCall (w2 := BilW cA h0 s0) (xRunSN (n := 3) (As := [.int a1, .int 1, .int 999]) (rest := []) ⟨hx, hb, hml, hown, hts⟩ (kX12_isWithin l D cA  _ N a1 1 999 q1 c1) qco_X12_isWithin hN qmn_X2_31 qst_X12_isWithin qini_X12 (by decide +kernel) (by rw [← erm]; rfl) hK rfl rfl hl.1 rfl (lv_room (Nat.le_of_ble_eq_true rfl)) dX2_faultOfPayment_5 ⟨Nat.zero_le _, Nat.zero_le _⟩) hP hD hS hA [] [0, 1, 2] [0, 1, 2] rfl (wr := [(h0 0, .inr (3, [.ref (h0 1), .ref (h0 2), .int (s0.2.2.1), .int (s0.2.2.2)])), (h0 1, .inl (cA 0, 10, .inl (s0.1))), (h0 2, .inl (cA 0, 10, .inl (s0.2.1)))]) rfl rfl rfl rfl rfl (fun H locs hP hD hS => ?_)
  refine lv_if_ne (tgt := 15) hx hb dX2_faultOfPayment_8 (by decide) (fun c2 => ?_) (fun c2 => ?_)
  · have h := x_f h c2
    refine lv_iload_n hx hb dX2_faultOfPayment_15 rfl (lv_at hl 1 rfl) ?_
    refine lv_aload_n hx hb dX2_faultOfPayment_16 rfl (lv_at hl 0 rfl) ?_
    obtain ⟨q3, c3, h⟩ := x_call h
    refine xCall (w2 := BilW cA h0 s0) (zRunV (n := 0) (As := []) (rest := [.int a1]) ⟨hx, hb, hml, hown, hts⟩ (kX2_total l D cA ad h0 _ N s0 q3 c3) qco_X2_total qml_X2_47 qin_X2_total qse_X2_total qini_X2 (by decide +kernel) (by rw [← erm]; rfl) hN hE hS hA hK hP hD [0, 1, 2] rfl rfl (q0 := 0) rfl rfl rfl rfl rfl hl.1 rfl (lv_room (Nat.le_of_ble_eq_true rfl)) dX2_faultOfPayment_17 ⟨Nat.zero_le _, Nat.zero_le _⟩) hP hD hS hA [0, 1, 2] [] [0, 1, 2] rfl (wr := []) rfl rfl rfl rfl rfl (fun H locs hP hD hS => ?_)
    obtain ⟨J32, eJ32, h⟩ := x_join h
    have hJ_J32 : ∀ (t0_4 : Nat) (H : Heap) (locs : List Loc), va_P D vwCl (BilW cA h0 s0) H → va_D A (BilW cA h0 s0) → va_S A s.heap H locs → ∀ ls : Array Slot, lv_has ls 2 [] → J32 t0_4 = some q → W p l e rm s m ([.ref (h0 0), .int a1] : List Value).toArray below meth c H locs 0 0 (MQ below (xQ D cA A (BilW cA h0 s0) (some (.ref (ad q)))) ([.ref (h0 0), .int a1] : List Value).toArray s 0 0 A) (F0 m 32 ls [.ref (ad t0_4)]) := by
      clear h hP hD hS hl
      intro t0_4 H locs hP hD hS ls hl h
      rw [eJ32] at h
      have h := Option.some.inj h
      subst h
      exact zAret (a := ad t0_4) hx hb hr hlocks hP hK hD hS dX2_faultOfPayment_32
    refine lv_icmp_gt (tgt := 29) hx hb dX2_faultOfPayment_20 (by decide) (fun c5 => ?_) (fun c5 => ?_)
    · have h := x_t h c5
      refine va_gets hx hb (xE.f4 hE) hS hown (hts _ qfl_X2_44) (fun _ h9 => h9) dX2_faultOfPayment_29 ?_
      exact hJ_J32 4 _ _ hP hD hS _ (lv_sub hl [] rfl) h
    · have h := x_f h c5
      refine va_gets hx hb (xE.f0 hE) hS hown (hts _ qfl_X2_41) (fun _ h9 => h9) dX2_faultOfPayment_23 ?_
      refine lv_goto (tgt := 32) hx hb dX2_faultOfPayment_26 (by decide) ?_
      exact hJ_J32 0 _ _ hP hD hS _ (lv_sub hl [] rfl) h
  · have h := x_t h c2
    refine va_gets hx hb (xE.f3 hE) hS hown (hts _ qfl_X2_35) (fun _ h9 => h9) dX2_faultOfPayment_11 ?_
    have h := Option.some.inj h
    subst h
    exact zAret (a := ad 3) hx hb hr hlocks hP hK hD hS dX2_faultOfPayment_14
def fX2_add (N : Nat) (a1 : Int32) (s0 : BilS) : Option (Int32 × BilS) :=
  xjoin (fun (v2_1 : Int32) (s0_1 : BilS) =>
      some (v2_1, s0_1)
    ) fun J54 =>
  if 10 ≤ s0.2.2.1 then
    J54 s0.2.2.2 s0
  else
    xrd 10 s0.2.2.1 fun k3 =>
    xlet (upd s0.1 k3 s0.2.2.2) fun g4 =>
    xrd 10 s0.2.2.1 fun k5 =>
    xlet (upd s0.2.1 k5 a1) fun g6 =>
    xlet (s0.2.2.1 + 1) fun x7 =>
    xlet (s0.2.2.2 + 1) fun x8 =>
    J54 s0.2.2.2 ((g4, g6, x7, x8))
set_option maxRecDepth 100000 in
set_option maxHeartbeats 4000000 in
theorem kX2_add (l : Launch) (D : va_G) (cA : Nat → ClassId) (ad : Nat → Nat) (h0 : Nat → Nat) (sz N : Nat) (a1 : Int32) (s0 : BilS) (q : Int32 × BilS) (h : fX2_add N a1 s0 = some q) : zM l yX2_add cX2_add 3 (some .int) ({ frames := 0, cells := 0, slots := 0, locals := 0 }) D cA ad (BilW cA h0 s0) sz [.ref (h0 0), .int a1] (some (.int q.1)) (BilW cA h0 q.2) := by
  generalize erm : ({ frames := 0, cells := 0, slots := 0, locals := 0 } : Room) = rm
  refine zMet (by decide) (Nat.le_of_ble_eq_true rfl) ?_
  intro p e s m below meth c hx hb hr hlocks hml hts hown hin hK hP A eA hD hS hA hsz hN hE ls hl
  have hl : lv_has ls 3 [(0, .ref (h0 0)), (1, .int a1)] := hl
  clear eA
  rw [fX2_add] at h
  refine lv_aload_n hx hb dX2_add_0 rfl (lv_at hl 0 rfl) ?_
  refine va_get (D := D) (ci := 3) (v := .int s0.2.2.2) (C := RX2) (T := TX2) (N := 4) hx hb hts iX2 hown hK hP 0 rfl rfl 3 (by decide) (hts _ qfl_X2_28) (fun _ h9 => h9) rfl dX2_add_1 ?_
  refine lv_istore_n (lv' := [(2, .int s0.2.2.2), (0, .ref (h0 0)), (1, .int a1)]) hx hb dX2_add_4 rfl hl (by decide) rfl (fun ls hl => ?_)
  refine lv_aload_n hx hb dX2_add_5 rfl (lv_at hl 1 rfl) ?_
  refine va_get (D := D) (ci := 3) (v := .int s0.2.2.1) (C := RX2) (T := TX2) (N := 4) hx hb hts iX2 hown hK hP 0 rfl rfl 2 (by decide) (hts _ qfl_X2_24) (fun _ h9 => h9) rfl dX2_add_6 ?_
  refine lv_bipush (v := 10) hx hb dX2_add_9 (by decide) ?_
  obtain ⟨J54, eJ54, h⟩ := x_join h
  have hJ_J54 : ∀ (v2_1 : Int32) (s0_1 : BilS) (H : Heap) (locs : List Loc), va_P D vwCl (BilW cA h0 s0_1) H → va_D A (BilW cA h0 s0_1) → va_S A s.heap H locs → ∀ ls : Array Slot, lv_has ls 3 [(2, .int v2_1)] → J54 v2_1 s0_1 = some q → W p l e rm s m ([.ref (h0 0), .int a1] : List Value).toArray below meth c H locs 0 0 (MQ below (xQ D cA A (BilW cA h0 q.2) (some (.int q.1))) ([.ref (h0 0), .int a1] : List Value).toArray s 0 0 A) (F0 m 54 ls []) := by
    clear h hP hD hS hl
    intro v2_1 s0_1 H locs hP hD hS ls hl h
    rw [eJ54] at h
    refine lv_iload_n hx hb dX2_add_54 rfl (lv_at hl 0 rfl) ?_
    have h := Option.some.inj h
    subst h
    exact xIret hx hb hr hlocks hP hK hD hS dX2_add_55
  refine lv_icmp_ge (tgt := 54) hx hb dX2_add_11 (by decide) (fun c2 => ?_) (fun c2 => ?_)
  · have h := x_t h c2
    exact hJ_J54 s0.2.2.2 s0 _ _ hP hD hS _ (lv_sub hl [0] rfl) h
  · have h := x_f h c2
    refine lv_aload_n hx hb dX2_add_14 rfl (lv_at hl 1 rfl) ?_
    refine va_get (D := D) (ci := 3) (v := .ref (h0 1)) (C := RX2) (T := TX2) (N := 4) hx hb hts iX2 hown hK hP 0 rfl rfl 0 (by decide) (hts _ qfl_X2_9) (fun _ h9 => h9) rfl dX2_add_15 ?_
    refine lv_aload_n hx hb dX2_add_18 rfl (lv_at hl 1 rfl) ?_
    refine va_get (D := D) (ci := 3) (v := .int s0.2.2.1) (C := RX2) (T := TX2) (N := 4) hx hb hts iX2 hown hK hP 0 rfl rfl 2 (by decide) (hts _ qfl_X2_24) (fun _ h9 => h9) rfl dX2_add_19 ?_
    refine lv_iload_n hx hb dX2_add_22 rfl (lv_at hl 0 rfl) ?_
    obtain ⟨k3, hk3, h⟩ := x_rd h
    refine xIast (w2 := fun zz => BilW cA h0 ((Bils0 s0 zz))) hx hb hK hP hD hS 1 0 rfl rfl hk3 (fun _ => rfl) dX2_add_23 (fun g4 eg4 H locs hP hD hS => ?_)
    have h := x_let h eg4
    have hP : va_P D vwCl (BilW cA h0 ((Bils0 s0 g4))) H := hP
    have hD : va_D A (BilW cA h0 ((Bils0 s0 g4))) := hD
    refine lv_aload_n hx hb dX2_add_24 rfl (lv_at hl 1 rfl) ?_
    refine va_get (D := D) (ci := 3) (v := .ref (h0 2)) (C := RX2) (T := TX2) (N := 4) hx hb hts iX2 hown hK hP 0 rfl rfl 1 (by decide) (hts _ qfl_X2_15) (fun _ h9 => h9) rfl dX2_add_25 ?_
    refine lv_aload_n hx hb dX2_add_28 rfl (lv_at hl 1 rfl) ?_
    refine va_get (D := D) (ci := 3) (v := .int s0.2.2.1) (C := RX2) (T := TX2) (N := 4) hx hb hts iX2 hown hK hP 0 rfl rfl 2 (by decide) (hts _ qfl_X2_24) (fun _ h9 => h9) rfl dX2_add_29 ?_
    refine lv_iload_n hx hb dX2_add_32 rfl (lv_at hl 2 rfl) ?_
    obtain ⟨k5, hk5, h⟩ := x_rd h
    refine xIast (w2 := fun zz => BilW cA h0 ((Bils1 (Bils0 s0 g4) zz))) hx hb hK hP hD hS 2 0 rfl rfl hk5 (fun _ => rfl) dX2_add_33 (fun g6 eg6 H locs hP hD hS => ?_)
    have h := x_let h eg6
    have hP : va_P D vwCl (BilW cA h0 ((Bils1 (Bils0 s0 g4) g6))) H := hP
    have hD : va_D A (BilW cA h0 ((Bils1 (Bils0 s0 g4) g6))) := hD
    refine lv_aload_n hx hb dX2_add_34 rfl (lv_at hl 1 rfl) ?_
    refine lv_dup hx hb dX2_add_35 rfl ?_
    refine va_get (D := D) (ci := 3) (v := .int s0.2.2.1) (C := RX2) (T := TX2) (N := 4) hx hb hts iX2 hown hK hP 0 rfl rfl 2 (by decide) (hts _ qfl_X2_24) (fun _ h9 => h9) rfl dX2_add_36 ?_
    refine lv_iconst (v := 1) hx hb dX2_add_39 (by decide) ?_
    refine lv_iadd hx hb dX2_add_40 ?_
    refine lv_topi (fun x7 ex7 => ?_)
    have h := x_let h ex7
    refine va_put (D := D) (ci := 3) (v := .int x7) (ty := .int) (C := RX2) (T := TX2) (N := 4) hx hb hts iX2 tyX2 tyX2_ok nmX2 hown hK hP hD hS 0 rfl rfl 2 (by decide) (hts _ qfl_X2_24) (fun _ h9 => h9) rfl (by decide +kernel) rfl rfl (Nat.le_of_ble_eq_true rfl) dX2_add_41 (fun H locs hP hD hS => ?_)
    have hP : va_P D vwCl (BilW cA h0 ((Bils2 (Bils1 (Bils0 s0 g4) g6) x7))) H := hP
    have hD : va_D A (BilW cA h0 ((Bils2 (Bils1 (Bils0 s0 g4) g6) x7))) := hD
    refine lv_aload_n hx hb dX2_add_44 rfl (lv_at hl 1 rfl) ?_
    refine lv_dup hx hb dX2_add_45 rfl ?_
    refine va_get (D := D) (ci := 3) (v := .int s0.2.2.2) (C := RX2) (T := TX2) (N := 4) hx hb hts iX2 hown hK hP 0 rfl rfl 3 (by decide) (hts _ qfl_X2_28) (fun _ h9 => h9) rfl dX2_add_46 ?_
    refine lv_iconst (v := 1) hx hb dX2_add_49 (by decide) ?_
    refine lv_iadd hx hb dX2_add_50 ?_
    refine lv_topi (fun x8 ex8 => ?_)
    have h := x_let h ex8
    refine va_put (D := D) (ci := 3) (v := .int x8) (ty := .int) (C := RX2) (T := TX2) (N := 4) hx hb hts iX2 tyX2 tyX2_ok nmX2 hown hK hP hD hS 0 rfl rfl 3 (by decide) (hts _ qfl_X2_28) (fun _ h9 => h9) rfl (by decide +kernel) rfl rfl (Nat.le_of_ble_eq_true rfl) dX2_add_51 (fun H locs hP hD hS => ?_)
    have hP : va_P D vwCl (BilW cA h0 ((g4, g6, x7, x8))) H := hP
    have hD : va_D A (BilW cA h0 ((g4, g6, x7, x8))) := hD
    exact hJ_J54 s0.2.2.2 ((g4, g6, x7, x8)) _ _ hP hD hS _ (lv_sub hl [0] rfl) h
def fX2_dropPaid_L9 (N : Nat) (K56 : Int32 → Int32 → BilS → Option (Int32 × BilS)) : Nat → Int32 → Int32 → Int32 → BilS → Option (Int32 × BilS)
  | 0, _, _, _, _ => none
  | n + 1, v1_2, v2_2, v3_2, s0_2 =>
    if v1_2 ≤ v3_2 then
      K56 v1_2 v2_2 s0_2
    else
      xrd 10 v3_2 fun k4 =>
      xjoin (fun (v1_5 : Int32) (v2_5 : Int32) (v3_5 : Int32) (s0_5 : BilS) =>
          xlet (v3_5 + (1)) fun x6 =>
          fX2_dropPaid_L9 N K56 n v1_5 v2_5 x6 s0_5
        ) fun J50 =>
      if (s0_2.2.1 k4) ≤ 0 then
        J50 v1_2 v2_2 v3_2 s0_2
      else
        xrd 10 v3_2 fun k8 =>
        xrd 10 v2_2 fun k9 =>
        xlet (upd s0_2.1 k9 (s0_2.1 k8)) fun g10 =>
        xrd 10 v3_2 fun k11 =>
        xrd 10 v2_2 fun k12 =>
        xlet (upd s0_2.2.1 k12 (s0_2.2.1 k11)) fun g13 =>
        xlet (v2_2 + (1)) fun x14 =>
        J50 v1_2 x14 v3_2 ((Bils1 (Bils0 s0_2 g10) g13))
def fX2_dropPaid (N : Nat)  (s0 : BilS) : Option (Int32 × BilS) :=
  xjoin (fun (v1_1 : Int32) (v2_1 : Int32) (s0_1 : BilS) =>
      some (v1_1 - v2_1, (Bils2 s0_1 v2_1))
    ) fun K56 =>
  fX2_dropPaid_L9 N K56 N s0.2.2.1 0 0 s0
set_option maxRecDepth 100000 in
set_option maxHeartbeats 4000000 in
theorem kX2_dropPaid (l : Launch) (D : va_G) (cA : Nat → ClassId) (ad : Nat → Nat) (h0 : Nat → Nat) (sz N : Nat)  (s0 : BilS) (q : Int32 × BilS) (h : fX2_dropPaid N s0 = some q) : zM l yX2_dropPaid cX2_dropPaid 4 (some .int) ({ frames := 0, cells := 0, slots := 0, locals := 0 }) D cA ad (BilW cA h0 s0) sz [.ref (h0 0)] (some (.int q.1)) (BilW cA h0 q.2) := by
  generalize erm : ({ frames := 0, cells := 0, slots := 0, locals := 0 } : Room) = rm
  refine zMet (by decide) (Nat.le_of_ble_eq_true rfl) ?_
  intro p e s m below meth c hx hb hr hlocks hml hts hown hin hK hP A eA hD hS hA hsz hN hE ls hl
  have hl : lv_has ls 4 [(0, .ref (h0 0))] := hl
  clear eA
  rw [fX2_dropPaid] at h
  refine lv_aload_n hx hb dX2_dropPaid_0 rfl (lv_at hl 0 rfl) ?_
  refine va_get (D := D) (ci := 3) (v := .int s0.2.2.1) (C := RX2) (T := TX2) (N := 4) hx hb hts iX2 hown hK hP 0 rfl rfl 2 (by decide) (hts _ qfl_X2_24) (fun _ h9 => h9) rfl dX2_dropPaid_1 ?_
  refine lv_istore_n (lv' := [(1, .int s0.2.2.1), (0, .ref (h0 0))]) hx hb dX2_dropPaid_4 rfl hl (by decide) rfl (fun ls hl => ?_)
  refine lv_iconst (v := 0) hx hb dX2_dropPaid_5 (by decide) ?_
  refine lv_istore_n (lv' := [(2, .int 0), (1, .int s0.2.2.1), (0, .ref (h0 0))]) hx hb dX2_dropPaid_6 rfl hl (by decide) rfl (fun ls hl => ?_)
  refine lv_iconst (v := 0) hx hb dX2_dropPaid_7 (by decide) ?_
  refine lv_istore_n (lv' := [(3, .int 0), (2, .int 0), (1, .int s0.2.2.1), (0, .ref (h0 0))]) hx hb dX2_dropPaid_8 rfl hl (by decide) rfl (fun ls hl => ?_)
  obtain ⟨K56, eK56, h⟩ := x_join h
  have hJ_K56 : ∀ (v1_1 : Int32) (v2_1 : Int32) (s0_1 : BilS) (H : Heap) (locs : List Loc), va_P D vwCl (BilW cA h0 s0_1) H → va_D A (BilW cA h0 s0_1) → va_S A s.heap H locs → ∀ ls : Array Slot, lv_has ls 4 [(0, .ref (h0 0)), (1, .int v1_1), (2, .int v2_1)] → K56 v1_1 v2_1 s0_1 = some q → W p l e rm s m ([.ref (h0 0)] : List Value).toArray below meth c H locs 0 0 (MQ below (xQ D cA A (BilW cA h0 q.2) (some (.int q.1))) ([.ref (h0 0)] : List Value).toArray s 0 0 A) (F0 m 56 ls []) := by
    clear h hP hD hS hl
    intro v1_1 v2_1 s0_1 H locs hP hD hS ls hl h
    rw [eK56] at h
    refine lv_aload_n hx hb dX2_dropPaid_56 rfl (lv_at hl 0 rfl) ?_
    refine lv_iload_n hx hb dX2_dropPaid_57 rfl (lv_at hl 2 rfl) ?_
    refine va_put (D := D) (ci := 3) (v := .int v2_1) (ty := .int) (C := RX2) (T := TX2) (N := 4) hx hb hts iX2 tyX2 tyX2_ok nmX2 hown hK hP hD hS 0 rfl rfl 2 (by decide) (hts _ qfl_X2_24) (fun _ h9 => h9) rfl (by decide +kernel) rfl rfl (Nat.le_of_ble_eq_true rfl) dX2_dropPaid_58 (fun H locs hP hD hS => ?_)
    have hP : va_P D vwCl (BilW cA h0 ((Bils2 s0_1 v2_1))) H := hP
    have hD : va_D A (BilW cA h0 ((Bils2 s0_1 v2_1))) := hD
    refine lv_iload_n hx hb dX2_dropPaid_61 rfl (lv_at hl 1 rfl) ?_
    refine lv_iload_n hx hb dX2_dropPaid_62 rfl (lv_at hl 2 rfl) ?_
    refine lv_isub hx hb dX2_dropPaid_63 ?_
    have h := Option.some.inj h
    subst h
    exact xIret hx hb hr hlocks hP hK hD hS dX2_dropPaid_64
  have hL9 : ∀ (n : Nat) (v1_2 : Int32) (v2_2 : Int32) (v3_2 : Int32) (s0_2 : BilS) (H : Heap) (locs : List Loc), va_P D vwCl (BilW cA h0 s0_2) H → va_D A (BilW cA h0 s0_2) → va_S A s.heap H locs → ∀ ls : Array Slot, lv_has ls 4 [(0, .ref (h0 0)), (1, .int v1_2), (2, .int v2_2), (3, .int v3_2)] → fX2_dropPaid_L9 N K56 n v1_2 v2_2 v3_2 s0_2 = some q → W p l e rm s m ([.ref (h0 0)] : List Value).toArray below meth c H locs 0 0 (MQ below (xQ D cA A (BilW cA h0 q.2) (some (.int q.1))) ([.ref (h0 0)] : List Value).toArray s 0 0 A) (F0 m 9 ls []) := by
    clear h hP hD hS hl
    intro n
    induction n with
    | zero => intro v1_2 v2_2 v3_2 s0_2 H locs hP hD hS ls hl h; rw [fX2_dropPaid_L9] at h; cases h
    | succ n ih =>
      intro v1_2 v2_2 v3_2 s0_2 H locs hP hD hS ls hl h
      rw [fX2_dropPaid_L9] at h
      refine lv_iload_n hx hb dX2_dropPaid_9 rfl (lv_at hl 3 rfl) ?_
      refine lv_iload_n hx hb dX2_dropPaid_10 rfl (lv_at hl 1 rfl) ?_
      refine lv_icmp_ge (tgt := 56) hx hb dX2_dropPaid_11 (by decide) (fun c3 => ?_) (fun c3 => ?_)
      · have h := x_t h c3
        exact hJ_K56 v1_2 v2_2 s0_2 _ _ hP hD hS _ (lv_sub hl [0, 1, 2] rfl) h
      · have h := x_f h c3
        refine lv_aload_n hx hb dX2_dropPaid_14 rfl (lv_at hl 0 rfl) ?_
        refine va_get (D := D) (ci := 3) (v := .ref (h0 2)) (C := RX2) (T := TX2) (N := 4) hx hb hts iX2 hown hK hP 0 rfl rfl 1 (by decide) (hts _ qfl_X2_15) (fun _ h9 => h9) rfl dX2_dropPaid_15 ?_
        refine lv_iload_n hx hb dX2_dropPaid_18 rfl (lv_at hl 3 rfl) ?_
        obtain ⟨k4, hk4, h⟩ := x_rd h
        refine xIald hx hb hK hP 2 0 rfl rfl hk4 dX2_dropPaid_19 ?_
        obtain ⟨J50, eJ50, h⟩ := x_join h
        have hJ_J50 : ∀ (v1_5 : Int32) (v2_5 : Int32) (v3_5 : Int32) (s0_5 : BilS) (H : Heap) (locs : List Loc), va_P D vwCl (BilW cA h0 s0_5) H → va_D A (BilW cA h0 s0_5) → va_S A s.heap H locs → ∀ ls : Array Slot, lv_has ls 4 [(0, .ref (h0 0)), (1, .int v1_5), (2, .int v2_5), (3, .int v3_5)] → J50 v1_5 v2_5 v3_5 s0_5 = some q → W p l e rm s m ([.ref (h0 0)] : List Value).toArray below meth c H locs 0 0 (MQ below (xQ D cA A (BilW cA h0 q.2) (some (.int q.1))) ([.ref (h0 0)] : List Value).toArray s 0 0 A) (F0 m 50 ls []) := by
          clear h hP hD hS hl
          intro v1_5 v2_5 v3_5 s0_5 H locs hP hD hS ls hl h
          rw [eJ50] at h
          obtain ⟨x6, ex6⟩ : ∃ y : Int32, y = v3_5 + (1) := ⟨_, rfl⟩
          have h := x_let h ex6
          refine lv_iinc (v := x6) (lv' := [(3, .int x6), (0, .ref (h0 0)), (1, .int v1_5), (2, .int v2_5)]) hx hb dX2_dropPaid_50 hl (k := 3) rfl (by rw [ex6]; rfl) (by decide) rfl (fun ls hl => ?_)
          refine lv_goto (tgt := 9) hx hb dX2_dropPaid_53 (by decide) ?_
          exact ih v1_5 v2_5 x6 s0_5 _ _ hP hD hS _ (lv_sub hl [1, 2, 3, 0] rfl) h
        refine lv_if_le (tgt := 50) hx hb dX2_dropPaid_20 (by decide) (fun c7 => ?_) (fun c7 => ?_)
        · have h := x_t h c7
          exact hJ_J50 v1_2 v2_2 v3_2 s0_2 _ _ hP hD hS _ (lv_sub hl [0, 1, 2, 3] rfl) h
        · have h := x_f h c7
          refine lv_aload_n hx hb dX2_dropPaid_23 rfl (lv_at hl 0 rfl) ?_
          refine va_get (D := D) (ci := 3) (v := .ref (h0 1)) (C := RX2) (T := TX2) (N := 4) hx hb hts iX2 hown hK hP 0 rfl rfl 0 (by decide) (hts _ qfl_X2_9) (fun _ h9 => h9) rfl dX2_dropPaid_24 ?_
          refine lv_iload_n hx hb dX2_dropPaid_27 rfl (lv_at hl 2 rfl) ?_
          refine lv_aload_n hx hb dX2_dropPaid_28 rfl (lv_at hl 0 rfl) ?_
          refine va_get (D := D) (ci := 3) (v := .ref (h0 1)) (C := RX2) (T := TX2) (N := 4) hx hb hts iX2 hown hK hP 0 rfl rfl 0 (by decide) (hts _ qfl_X2_9) (fun _ h9 => h9) rfl dX2_dropPaid_29 ?_
          refine lv_iload_n hx hb dX2_dropPaid_32 rfl (lv_at hl 3 rfl) ?_
          obtain ⟨k8, hk8, h⟩ := x_rd h
          refine xIald hx hb hK hP 1 0 rfl rfl hk8 dX2_dropPaid_33 ?_
          obtain ⟨k9, hk9, h⟩ := x_rd h
          refine xIast (w2 := fun zz => BilW cA h0 ((Bils0 s0_2 zz))) hx hb hK hP hD hS 1 0 rfl rfl hk9 (fun _ => rfl) dX2_dropPaid_34 (fun g10 eg10 H locs hP hD hS => ?_)
          have h := x_let h eg10
          have hP : va_P D vwCl (BilW cA h0 ((Bils0 s0_2 g10))) H := hP
          have hD : va_D A (BilW cA h0 ((Bils0 s0_2 g10))) := hD
          refine lv_aload_n hx hb dX2_dropPaid_35 rfl (lv_at hl 0 rfl) ?_
          refine va_get (D := D) (ci := 3) (v := .ref (h0 2)) (C := RX2) (T := TX2) (N := 4) hx hb hts iX2 hown hK hP 0 rfl rfl 1 (by decide) (hts _ qfl_X2_15) (fun _ h9 => h9) rfl dX2_dropPaid_36 ?_
          refine lv_iload_n hx hb dX2_dropPaid_39 rfl (lv_at hl 2 rfl) ?_
          refine lv_aload_n hx hb dX2_dropPaid_40 rfl (lv_at hl 0 rfl) ?_
          refine va_get (D := D) (ci := 3) (v := .ref (h0 2)) (C := RX2) (T := TX2) (N := 4) hx hb hts iX2 hown hK hP 0 rfl rfl 1 (by decide) (hts _ qfl_X2_15) (fun _ h9 => h9) rfl dX2_dropPaid_41 ?_
          refine lv_iload_n hx hb dX2_dropPaid_44 rfl (lv_at hl 3 rfl) ?_
          obtain ⟨k11, hk11, h⟩ := x_rd h
          refine xIald hx hb hK hP 2 0 rfl rfl hk11 dX2_dropPaid_45 ?_
          obtain ⟨k12, hk12, h⟩ := x_rd h
          refine xIast (w2 := fun zz => BilW cA h0 ((Bils1 (Bils0 s0_2 g10) zz))) hx hb hK hP hD hS 2 0 rfl rfl hk12 (fun _ => rfl) dX2_dropPaid_46 (fun g13 eg13 H locs hP hD hS => ?_)
          have h := x_let h eg13
          have hP : va_P D vwCl (BilW cA h0 ((Bils1 (Bils0 s0_2 g10) g13))) H := hP
          have hD : va_D A (BilW cA h0 ((Bils1 (Bils0 s0_2 g10) g13))) := hD
          obtain ⟨x14, ex14⟩ : ∃ y : Int32, y = v2_2 + (1) := ⟨_, rfl⟩
          have h := x_let h ex14
          refine lv_iinc (v := x14) (lv' := [(2, .int x14), (0, .ref (h0 0)), (1, .int v1_2), (3, .int v3_2)]) hx hb dX2_dropPaid_47 hl (k := 2) rfl (by rw [ex14]; rfl) (by decide) rfl (fun ls hl => ?_)
          exact hJ_J50 v1_2 x14 v3_2 ((Bils1 (Bils0 s0_2 g10) g13)) _ _ hP hD hS _ (lv_sub hl [1, 2, 0, 3] rfl) h
  exact hL9 N s0.2.2.1 0 0 s0 _ _ hP hD hS _ (lv_sub hl [3, 2, 1, 0] rfl) h
def fX2_paySet_L2 (N : Nat) (K31 : BilS → Option (Int32 × BilS)) : Nat → Int32 → Int32 → BilS → Option (Int32 × BilS)
  | 0, _, _, _ => none
  | n + 1, v1_3, v2_3, s0_3 =>
    if s0_3.2.2.1 ≤ v2_3 then
      K31 s0_3
    else
      xcall (fX12_isInSet N v2_3 v1_3) fun q5 =>
      xjoin (fun (v1_6 : Int32) (v2_6 : Int32) (s0_6 : BilS) =>
          xlet (v2_6 + (1)) fun x7 =>
          fX2_paySet_L2 N K31 n v1_6 x7 s0_6
        ) fun J25 =>
      if q5 = 0 then
        J25 v1_3 v2_3 s0_3
      else
        xrd 10 v2_3 fun k9 =>
        xlet (upd s0_3.2.1 k9 0) fun g10 =>
        J25 v1_3 v2_3 ((Bils1 s0_3 g10))
def fX2_paySet (N : Nat) (a1 : Int32) (s0 : BilS) : Option (Int32 × BilS) :=
  xjoin (fun (s0_1 : BilS) =>
      xcall (fX2_dropPaid N s0_1) fun q2 =>
      some (q2.1, q2.2)
    ) fun K31 =>
  fX2_paySet_L2 N K31 N a1 0 s0
set_option maxRecDepth 100000 in
set_option maxHeartbeats 4000000 in
theorem kX2_paySet (l : Launch) (D : va_G) (cA : Nat → ClassId) (ad : Nat → Nat) (h0 : Nat → Nat) (sz N : Nat) (a1 : Int32) (s0 : BilS) (q : Int32 × BilS) (h : fX2_paySet N a1 s0 = some q) : zM l yX2_paySet cX2_paySet 3 (some .int) ({ frames := 1, cells := 0, slots := 0, locals := 23 }) D cA ad (BilW cA h0 s0) sz [.ref (h0 0), .int a1] (some (.int q.1)) (BilW cA h0 q.2) := by
  generalize erm : ({ frames := 1, cells := 0, slots := 0, locals := 23 } : Room) = rm
  refine zMet (by decide) (Nat.le_of_ble_eq_true rfl) ?_
  intro p e s m below meth c hx hb hr hlocks hml hts hown hin hK hP A eA hD hS hA hsz hN hE ls hl
  have hl : lv_has ls 3 [(0, .ref (h0 0)), (1, .int a1)] := hl
  clear eA
  rw [fX2_paySet] at h
  refine lv_iconst (v := 0) hx hb dX2_paySet_0 (by decide) ?_
  refine lv_istore_n (lv' := [(2, .int 0), (0, .ref (h0 0)), (1, .int a1)]) hx hb dX2_paySet_1 rfl hl (by decide) rfl (fun ls hl => ?_)
  obtain ⟨K31, eK31, h⟩ := x_join h
  have hJ_K31 : ∀ (s0_1 : BilS) (H : Heap) (locs : List Loc), va_P D vwCl (BilW cA h0 s0_1) H → va_D A (BilW cA h0 s0_1) → va_S A s.heap H locs → ∀ ls : Array Slot, lv_has ls 3 [(0, .ref (h0 0))] → K31 s0_1 = some q → W p l e rm s m ([.ref (h0 0), .int a1] : List Value).toArray below meth c H locs 0 0 (MQ below (xQ D cA A (BilW cA h0 q.2) (some (.int q.1))) ([.ref (h0 0), .int a1] : List Value).toArray s 0 0 A) (F0 m 31 ls []) := by
    clear h hP hD hS hl
    intro s0_1 H locs hP hD hS ls hl h
    rw [eK31] at h
    refine lv_aload_n hx hb dX2_paySet_31 rfl (lv_at hl 0 rfl) ?_
    obtain ⟨q2, c2, h⟩ := x_call h
    refine xCall (w2 := BilW cA h0 q2.2) (zRunV (n := 0) (As := []) (rest := []) ⟨hx, hb, hml, hown, hts⟩ (kX2_dropPaid l D cA ad h0 _ N s0_1 q2 c2) qco_X2_dropPaid qml_X2_55 qin_X2_dropPaid qse_X2_dropPaid qini_X2 (by decide +kernel) (by rw [← erm]; rfl) hN hE hS hA hK hP hD [0, 1, 2] rfl rfl (q0 := 0) rfl rfl rfl rfl rfl hl.1 rfl (lv_room (Nat.le_of_ble_eq_true rfl)) dX2_paySet_32 ⟨Nat.zero_le _, Nat.zero_le _⟩) hP hD hS hA [0, 1, 2] [] [0, 1, 2] rfl (wr := []) rfl rfl rfl rfl rfl (fun H locs hP hD hS => ?_)
    have h := Option.some.inj h
    subst h
    exact xIret hx hb hr hlocks hP hK hD hS dX2_paySet_35
  have hL2 : ∀ (n : Nat) (v1_3 : Int32) (v2_3 : Int32) (s0_3 : BilS) (H : Heap) (locs : List Loc), va_P D vwCl (BilW cA h0 s0_3) H → va_D A (BilW cA h0 s0_3) → va_S A s.heap H locs → ∀ ls : Array Slot, lv_has ls 3 [(0, .ref (h0 0)), (1, .int v1_3), (2, .int v2_3)] → fX2_paySet_L2 N K31 n v1_3 v2_3 s0_3 = some q → W p l e rm s m ([.ref (h0 0), .int a1] : List Value).toArray below meth c H locs 0 0 (MQ below (xQ D cA A (BilW cA h0 q.2) (some (.int q.1))) ([.ref (h0 0), .int a1] : List Value).toArray s 0 0 A) (F0 m 2 ls []) := by
    clear h hP hD hS hl
    intro n
    induction n with
    | zero => intro v1_3 v2_3 s0_3 H locs hP hD hS ls hl h; rw [fX2_paySet_L2] at h; cases h
    | succ n ih =>
      intro v1_3 v2_3 s0_3 H locs hP hD hS ls hl h
      rw [fX2_paySet_L2] at h
      refine lv_iload_n hx hb dX2_paySet_2 rfl (lv_at hl 2 rfl) ?_
      refine lv_aload_n hx hb dX2_paySet_3 rfl (lv_at hl 0 rfl) ?_
      refine va_get (D := D) (ci := 3) (v := .int s0_3.2.2.1) (C := RX2) (T := TX2) (N := 4) hx hb hts iX2 hown hK hP 0 rfl rfl 2 (by decide) (hts _ qfl_X2_24) (fun _ h9 => h9) rfl dX2_paySet_4 ?_
      refine lv_icmp_ge (tgt := 31) hx hb dX2_paySet_7 (by decide) (fun c4 => ?_) (fun c4 => ?_)
      · have h := x_t h c4
        exact hJ_K31 s0_3 _ _ hP hD hS _ (lv_sub hl [0] rfl) h
      · have h := x_f h c4
        refine lv_iload_n hx hb dX2_paySet_10 rfl (lv_at hl 2 rfl) ?_
        refine lv_iload_n hx hb dX2_paySet_11 rfl (lv_at hl 1 rfl) ?_
        obtain ⟨q5, c5, h⟩ := x_call h
        refine xCall (w2 := BilW cA h0 s0_3) (xRunSN (n := 2) (As := [.int v2_3, .int v1_3]) (rest := []) ⟨hx, hb, hml, hown, hts⟩ (kX12_isInSet l D cA  _ N v2_3 v1_3 q5 c5) qco_X12_isInSet hN qmn_X2_51 qst_X12_isInSet qini_X12 (by decide +kernel) (by rw [← erm]; rfl) hK rfl rfl hl.1 rfl (lv_room (Nat.le_of_ble_eq_true rfl)) dX2_paySet_12 ⟨Nat.zero_le _, Nat.zero_le _⟩) hP hD hS hA [] [0, 1, 2] [0, 1, 2] rfl (wr := [(h0 0, .inr (3, [.ref (h0 1), .ref (h0 2), .int (s0_3.2.2.1), .int (s0_3.2.2.2)])), (h0 1, .inl (cA 0, 10, .inl (s0_3.1))), (h0 2, .inl (cA 0, 10, .inl (s0_3.2.1)))]) rfl rfl rfl rfl rfl (fun H locs hP hD hS => ?_)
        obtain ⟨J25, eJ25, h⟩ := x_join h
        have hJ_J25 : ∀ (v1_6 : Int32) (v2_6 : Int32) (s0_6 : BilS) (H : Heap) (locs : List Loc), va_P D vwCl (BilW cA h0 s0_6) H → va_D A (BilW cA h0 s0_6) → va_S A s.heap H locs → ∀ ls : Array Slot, lv_has ls 3 [(0, .ref (h0 0)), (1, .int v1_6), (2, .int v2_6)] → J25 v1_6 v2_6 s0_6 = some q → W p l e rm s m ([.ref (h0 0), .int a1] : List Value).toArray below meth c H locs 0 0 (MQ below (xQ D cA A (BilW cA h0 q.2) (some (.int q.1))) ([.ref (h0 0), .int a1] : List Value).toArray s 0 0 A) (F0 m 25 ls []) := by
          clear h hP hD hS hl
          intro v1_6 v2_6 s0_6 H locs hP hD hS ls hl h
          rw [eJ25] at h
          obtain ⟨x7, ex7⟩ : ∃ y : Int32, y = v2_6 + (1) := ⟨_, rfl⟩
          have h := x_let h ex7
          refine lv_iinc (v := x7) (lv' := [(2, .int x7), (0, .ref (h0 0)), (1, .int v1_6)]) hx hb dX2_paySet_25 hl (k := 2) rfl (by rw [ex7]; rfl) (by decide) rfl (fun ls hl => ?_)
          refine lv_goto (tgt := 2) hx hb dX2_paySet_28 (by decide) ?_
          exact ih v1_6 x7 s0_6 _ _ hP hD hS _ (lv_sub hl [1, 2, 0] rfl) h
        refine lv_if_eq (tgt := 25) hx hb dX2_paySet_15 (by decide) (fun c8 => ?_) (fun c8 => ?_)
        · have h := x_t h c8
          exact hJ_J25 v1_3 v2_3 s0_3 _ _ hP hD hS _ (lv_sub hl [0, 1, 2] rfl) h
        · have h := x_f h c8
          refine lv_aload_n hx hb dX2_paySet_18 rfl (lv_at hl 0 rfl) ?_
          refine va_get (D := D) (ci := 3) (v := .ref (h0 2)) (C := RX2) (T := TX2) (N := 4) hx hb hts iX2 hown hK hP 0 rfl rfl 1 (by decide) (hts _ qfl_X2_15) (fun _ h9 => h9) rfl dX2_paySet_19 ?_
          refine lv_iload_n hx hb dX2_paySet_22 rfl (lv_at hl 2 rfl) ?_
          refine lv_iconst (v := 0) hx hb dX2_paySet_23 (by decide) ?_
          obtain ⟨k9, hk9, h⟩ := x_rd h
          refine xIast (w2 := fun zz => BilW cA h0 ((Bils1 s0_3 zz))) hx hb hK hP hD hS 2 0 rfl rfl hk9 (fun _ => rfl) dX2_paySet_24 (fun g10 eg10 H locs hP hD hS => ?_)
          have h := x_let h eg10
          have hP : va_P D vwCl (BilW cA h0 ((Bils1 s0_3 g10))) H := hP
          have hD : va_D A (BilW cA h0 ((Bils1 s0_3 g10))) := hD
          exact hJ_J25 v1_3 v2_3 ((Bils1 s0_3 g10)) _ _ hP hD hS _ (lv_sub hl [0, 1, 2] rfl) h
  exact hL2 N a1 0 s0 _ _ hP hD hS _ (lv_sub hl [1, 2, 0] rfl) h
def fX2_payInOrder_L4 (N : Nat) (K46 : BilS → Option (Int32 × BilS)) : Nat → Int32 → Int32 → BilS → Option (Int32 × BilS)
  | 0, _, _, _ => none
  | n + 1, v2_3, v3_3, s0_3 =>
    if s0_3.2.2.1 ≤ v3_3 then
      K46 s0_3
    else
      xrd 10 v3_3 fun k5 =>
      xcall (fJ9_min_7cf53 N v2_3 (s0_3.2.1 k5)) fun q6 =>
      xrd 10 v3_3 fun k7 =>
      xrd 10 v3_3 fun k8 =>
      xlet (upd s0_3.2.1 k8 ((s0_3.2.1 k7) - q6)) fun g9 =>
      xlet (v2_3 - q6) fun x10 =>
      xlet (v3_3 + (1)) fun x11 =>
      fX2_payInOrder_L4 N K46 n x10 x11 ((Bils1 s0_3 g9))
def fX2_payInOrder (N : Nat) (a1 : Int32) (s0 : BilS) : Option (Int32 × BilS) :=
  xjoin (fun (s0_1 : BilS) =>
      xcall (fX2_dropPaid N s0_1) fun q2 =>
      some (q2.1, q2.2)
    ) fun K46 =>
  fX2_payInOrder_L4 N K46 N a1 0 s0
set_option maxRecDepth 100000 in
set_option maxHeartbeats 4000000 in
theorem kX2_payInOrder (l : Launch) (D : va_G) (cA : Nat → ClassId) (ad : Nat → Nat) (h0 : Nat → Nat) (sz N : Nat) (a1 : Int32) (s0 : BilS) (q : Int32 × BilS) (h : fX2_payInOrder N a1 s0 = some q) : zM l yX2_payInOrder cX2_payInOrder 5 (some .int) ({ frames := 1, cells := 0, slots := 0, locals := 23 }) D cA ad (BilW cA h0 s0) sz [.ref (h0 0), .int a1] (some (.int q.1)) (BilW cA h0 q.2) := by
  generalize erm : ({ frames := 1, cells := 0, slots := 0, locals := 23 } : Room) = rm
  refine zMet (by decide) (Nat.le_of_ble_eq_true rfl) ?_
  intro p e s m below meth c hx hb hr hlocks hml hts hown hin hK hP A eA hD hS hA hsz hN hE ls hl
  have hl : lv_has ls 5 [(0, .ref (h0 0)), (1, .int a1)] := hl
  clear eA
  rw [fX2_payInOrder] at h
  refine lv_iload_n hx hb dX2_payInOrder_0 rfl (lv_at hl 1 rfl) ?_
  refine lv_istore_n (lv' := [(2, .int a1), (0, .ref (h0 0)), (1, .int a1)]) hx hb dX2_payInOrder_1 rfl hl (by decide) rfl (fun ls hl => ?_)
  refine lv_iconst (v := 0) hx hb dX2_payInOrder_2 (by decide) ?_
  refine lv_istore_n (lv' := [(3, .int 0), (2, .int a1), (0, .ref (h0 0)), (1, .int a1)]) hx hb dX2_payInOrder_3 rfl hl (by decide) rfl (fun ls hl => ?_)
  obtain ⟨K46, eK46, h⟩ := x_join h
  have hJ_K46 : ∀ (s0_1 : BilS) (H : Heap) (locs : List Loc), va_P D vwCl (BilW cA h0 s0_1) H → va_D A (BilW cA h0 s0_1) → va_S A s.heap H locs → ∀ ls : Array Slot, lv_has ls 5 [(0, .ref (h0 0))] → K46 s0_1 = some q → W p l e rm s m ([.ref (h0 0), .int a1] : List Value).toArray below meth c H locs 0 0 (MQ below (xQ D cA A (BilW cA h0 q.2) (some (.int q.1))) ([.ref (h0 0), .int a1] : List Value).toArray s 0 0 A) (F0 m 46 ls []) := by
    clear h hP hD hS hl
    intro s0_1 H locs hP hD hS ls hl h
    rw [eK46] at h
    refine lv_aload_n hx hb dX2_payInOrder_46 rfl (lv_at hl 0 rfl) ?_
    obtain ⟨q2, c2, h⟩ := x_call h
    refine xCall (w2 := BilW cA h0 q2.2) (zRunV (n := 0) (As := []) (rest := []) ⟨hx, hb, hml, hown, hts⟩ (kX2_dropPaid l D cA ad h0 _ N s0_1 q2 c2) qco_X2_dropPaid qml_X2_55 qin_X2_dropPaid qse_X2_dropPaid qini_X2 (by decide +kernel) (by rw [← erm]; rfl) hN hE hS hA hK hP hD [0, 1, 2] rfl rfl (q0 := 0) rfl rfl rfl rfl rfl hl.1 rfl (lv_room (Nat.le_of_ble_eq_true rfl)) dX2_payInOrder_47 ⟨Nat.zero_le _, Nat.zero_le _⟩) hP hD hS hA [0, 1, 2] [] [0, 1, 2] rfl (wr := []) rfl rfl rfl rfl rfl (fun H locs hP hD hS => ?_)
    have h := Option.some.inj h
    subst h
    exact xIret hx hb hr hlocks hP hK hD hS dX2_payInOrder_50
  have hL4 : ∀ (n : Nat) (v2_3 : Int32) (v3_3 : Int32) (s0_3 : BilS) (H : Heap) (locs : List Loc), va_P D vwCl (BilW cA h0 s0_3) H → va_D A (BilW cA h0 s0_3) → va_S A s.heap H locs → ∀ ls : Array Slot, lv_has ls 5 [(0, .ref (h0 0)), (2, .int v2_3), (3, .int v3_3)] → fX2_payInOrder_L4 N K46 n v2_3 v3_3 s0_3 = some q → W p l e rm s m ([.ref (h0 0), .int a1] : List Value).toArray below meth c H locs 0 0 (MQ below (xQ D cA A (BilW cA h0 q.2) (some (.int q.1))) ([.ref (h0 0), .int a1] : List Value).toArray s 0 0 A) (F0 m 4 ls []) := by
    clear h hP hD hS hl
    intro n
    induction n with
    | zero => intro v2_3 v3_3 s0_3 H locs hP hD hS ls hl h; rw [fX2_payInOrder_L4] at h; cases h
    | succ n ih =>
      intro v2_3 v3_3 s0_3 H locs hP hD hS ls hl h
      rw [fX2_payInOrder_L4] at h
      refine lv_iload_n hx hb dX2_payInOrder_4 rfl (lv_at hl 2 rfl) ?_
      refine lv_aload_n hx hb dX2_payInOrder_5 rfl (lv_at hl 0 rfl) ?_
      refine va_get (D := D) (ci := 3) (v := .int s0_3.2.2.1) (C := RX2) (T := TX2) (N := 4) hx hb hts iX2 hown hK hP 0 rfl rfl 2 (by decide) (hts _ qfl_X2_24) (fun _ h9 => h9) rfl dX2_payInOrder_6 ?_
      refine lv_icmp_ge (tgt := 46) hx hb dX2_payInOrder_9 (by decide) (fun c4 => ?_) (fun c4 => ?_)
      · have h := x_t h c4
        exact hJ_K46 s0_3 _ _ hP hD hS _ (lv_sub hl [0] rfl) h
      · have h := x_f h c4
        refine lv_iload_n hx hb dX2_payInOrder_12 rfl (lv_at hl 1 rfl) ?_
        refine lv_aload_n hx hb dX2_payInOrder_13 rfl (lv_at hl 0 rfl) ?_
        refine va_get (D := D) (ci := 3) (v := .ref (h0 2)) (C := RX2) (T := TX2) (N := 4) hx hb hts iX2 hown hK hP 0 rfl rfl 1 (by decide) (hts _ qfl_X2_15) (fun _ h9 => h9) rfl dX2_payInOrder_14 ?_
        refine lv_iload_n hx hb dX2_payInOrder_17 rfl (lv_at hl 2 rfl) ?_
        obtain ⟨k5, hk5, h⟩ := x_rd h
        refine xIald hx hb hK hP 2 0 rfl rfl hk5 dX2_payInOrder_18 ?_
        obtain ⟨q6, c6, h⟩ := x_call h
        refine xCall (w2 := BilW cA h0 s0_3) (xRunS (n := 2) (As := [.int v2_3, .int (s0_3.2.1 k5)]) (rest := []) ⟨hx, hb, hml, hown, hts⟩ (kJ9_min_7cf53 l D cA  _ N v2_3 (s0_3.2.1 k5) q6 c6) qco_J9_min_7cf53 qml_X2_58 qst_J9_min_7cf53 qini_J9 (by decide +kernel) (by rw [← erm]; rfl) hK hP hD [] rfl rfl rfl rfl hl.1 rfl (lv_room (Nat.le_of_ble_eq_true rfl)) dX2_payInOrder_19 ⟨Nat.zero_le _, Nat.zero_le _⟩) hP hD hS hA [] [0, 1, 2] [0, 1, 2] rfl (wr := [(h0 0, .inr (3, [.ref (h0 1), .ref (h0 2), .int (s0_3.2.2.1), .int (s0_3.2.2.2)])), (h0 1, .inl (cA 0, 10, .inl (s0_3.1))), (h0 2, .inl (cA 0, 10, .inl (s0_3.2.1)))]) rfl rfl rfl rfl rfl (fun H locs hP hD hS => ?_)
        refine lv_istore (lv' := [(4, .int q6), (0, .ref (h0 0)), (2, .int v2_3), (3, .int v3_3)]) hx hb dX2_payInOrder_22 hl (by decide) rfl (fun ls hl => ?_)
        refine lv_aload_n hx hb dX2_payInOrder_24 rfl (lv_at hl 1 rfl) ?_
        refine va_get (D := D) (ci := 3) (v := .ref (h0 2)) (C := RX2) (T := TX2) (N := 4) hx hb hts iX2 hown hK hP 0 rfl rfl 1 (by decide) (hts _ qfl_X2_15) (fun _ h9 => h9) rfl dX2_payInOrder_25 ?_
        refine lv_iload_n hx hb dX2_payInOrder_28 rfl (lv_at hl 3 rfl) ?_
        refine lv_dup2_11 hx hb dX2_payInOrder_29 rfl rfl ?_
        obtain ⟨k7, hk7, h⟩ := x_rd h
        refine xIald hx hb hK hP 2 0 rfl rfl hk7 dX2_payInOrder_30 ?_
        refine lv_iload hx hb dX2_payInOrder_31 (lv_at hl 0 rfl) ?_
        refine lv_isub hx hb dX2_payInOrder_33 ?_
        obtain ⟨k8, hk8, h⟩ := x_rd h
        refine xIast (w2 := fun zz => BilW cA h0 ((Bils1 s0_3 zz))) hx hb hK hP hD hS 2 0 rfl rfl hk8 (fun _ => rfl) dX2_payInOrder_34 (fun g9 eg9 H locs hP hD hS => ?_)
        have h := x_let h eg9
        have hP : va_P D vwCl (BilW cA h0 ((Bils1 s0_3 g9))) H := hP
        have hD : va_D A (BilW cA h0 ((Bils1 s0_3 g9))) := hD
        refine lv_iload_n hx hb dX2_payInOrder_35 rfl (lv_at hl 2 rfl) ?_
        refine lv_iload hx hb dX2_payInOrder_36 (lv_at hl 0 rfl) ?_
        refine lv_isub hx hb dX2_payInOrder_38 ?_
        refine lv_topi (fun x10 ex10 => ?_)
        have h := x_let h ex10
        refine lv_istore_n (lv' := [(2, .int x10), (4, .int q6), (0, .ref (h0 0)), (3, .int v3_3)]) hx hb dX2_payInOrder_39 rfl hl (by decide) rfl (fun ls hl => ?_)
        obtain ⟨x11, ex11⟩ : ∃ y : Int32, y = v3_3 + (1) := ⟨_, rfl⟩
        have h := x_let h ex11
        refine lv_iinc (v := x11) (lv' := [(3, .int x11), (2, .int x10), (4, .int q6), (0, .ref (h0 0))]) hx hb dX2_payInOrder_40 hl (k := 3) rfl (by rw [ex11]; rfl) (by decide) rfl (fun ls hl => ?_)
        refine lv_goto (tgt := 4) hx hb dX2_payInOrder_43 (by decide) ?_
        exact ih x10 x11 ((Bils1 s0_3 g9)) _ _ hP hD hS _ (lv_sub hl [3, 1, 0] rfl) h
  exact hL4 N a1 0 s0 _ _ hP hD hS _ (lv_sub hl [2, 1, 0] rfl) h
def fX11_copyFrom (N : Nat)  (s0 : WarS) (s1 : WarS) : Option (WarS × WarS) :=
  xlet (va_cpy s1.1 s0.1 0 0 8) fun g1 =>
  xlet (va_cpy s1.2.1 s0.2.1 0 0 8) fun g2 =>
  some ((Wars1 (Wars0 s1 g1) g2), s1)
set_option maxRecDepth 100000 in
set_option maxHeartbeats 4000000 in
theorem kX11_copyFrom (l : Launch) (D : va_G) (cA : Nat → ClassId) (ad : Nat → Nat) (h0 : Nat → Nat) (h1 : Nat → Nat) (sz N : Nat)  (s0 : WarS) (s1 : WarS) (q : WarS × WarS) (h : fX11_copyFrom N s0 s1 = some q) : zM l yX11_copyFrom cX11_copyFrom 2 none ({ frames := 1, cells := 0, slots := 0, locals := 40 }) D cA ad (WarW cA h0 s0 ++ WarW cA h1 s1) sz [.ref (h0 0), .ref (h1 0)] (none) (WarW cA h0 q.1 ++ WarW cA h1 q.2) := by
  generalize erm : ({ frames := 1, cells := 0, slots := 0, locals := 40 } : Room) = rm
  refine zMet (by decide) (Nat.le_of_ble_eq_true rfl) ?_
  intro p e s m below meth c hx hb hr hlocks hml hts hown hin hK hP A eA hD hS hA hsz hN hE ls hl
  have hl : lv_has ls 2 [(0, .ref (h0 0)), (1, .ref (h1 0))] := hl
  clear eA
  rw [fX11_copyFrom] at h
  refine lv_aload_n hx hb dX11_copyFrom_0 rfl (lv_at hl 1 rfl) ?_
  refine va_get (D := D) (ci := 10) (v := .ref (h1 1)) (C := RX11) (T := TX11) (N := 3) hx hb hts iX11 hown hK hP 3 rfl rfl 0 (by decide) (hts _ qfl_X11_9) (fun _ h9 => h9) rfl dX11_copyFrom_1 ?_
  refine lv_iconst (v := 0) hx hb dX11_copyFrom_4 (by decide) ?_
  refine lv_aload_n hx hb dX11_copyFrom_5 rfl (lv_at hl 0 rfl) ?_
  refine va_get (D := D) (ci := 10) (v := .ref (h0 1)) (C := RX11) (T := TX11) (N := 3) hx hb hts iX11 hown hK hP 0 rfl rfl 0 (by decide) (hts _ qfl_X11_9) (fun _ h9 => h9) rfl dX11_copyFrom_6 ?_
  refine lv_iconst (v := 0) hx hb dX11_copyFrom_9 (by decide) ?_
  refine lv_bipush (v := 8) hx hb dX11_copyFrom_10 (by decide) ?_
  refine va_copyi (n := 8) (sp := 0) (dp := 0) (ty := .int) hx hb (hml.trans hl.1.symm) hown (hts _ qma_X11_18) (hts _ qnat_copy) (hts _ qsta_copy) (hts _ qini_sys) hK hP hD hS 4 1 0 0 rfl rfl rfl rfl rfl (by decide) (by decide) (by decide) (by decide) (by decide) (fun _ _ => rfl) (by rw [← erm]; exact Nat.le_of_ble_eq_true rfl) (by rw [← erm]; exact Nat.le_of_ble_eq_true rfl) dX11_copyFrom_12 (fun H locs hP hD hS => ?_)
  obtain ⟨g1, eg1⟩ : ∃ y : Nat → Int32, y = va_cpy s1.1 s0.1 0 0 8 := ⟨_, rfl⟩
  have h := x_let h eg1
  have hP : va_P D vwCl (WarW cA h0 ((Wars0 s0 g1)) ++ WarW cA h1 s1) H := by rw [eg1]; exact hP
  have hD : va_D A (WarW cA h0 ((Wars0 s0 g1)) ++ WarW cA h1 s1) := by rw [eg1]; exact hD
  refine lv_aload_n hx hb dX11_copyFrom_15 rfl (lv_at hl 1 rfl) ?_
  refine va_get (D := D) (ci := 10) (v := .ref (h1 2)) (C := RX11) (T := TX11) (N := 3) hx hb hts iX11 hown hK hP 3 rfl rfl 1 (by decide) (hts _ qfl_X11_15) (fun _ h9 => h9) rfl dX11_copyFrom_16 ?_
  refine lv_iconst (v := 0) hx hb dX11_copyFrom_19 (by decide) ?_
  refine lv_aload_n hx hb dX11_copyFrom_20 rfl (lv_at hl 0 rfl) ?_
  refine va_get (D := D) (ci := 10) (v := .ref (h0 2)) (C := RX11) (T := TX11) (N := 3) hx hb hts iX11 hown hK hP 0 rfl rfl 1 (by decide) (hts _ qfl_X11_15) (fun _ h9 => h9) rfl dX11_copyFrom_21 ?_
  refine lv_iconst (v := 0) hx hb dX11_copyFrom_24 (by decide) ?_
  refine lv_bipush (v := 8) hx hb dX11_copyFrom_25 (by decide) ?_
  refine va_copyi (n := 8) (sp := 0) (dp := 0) (ty := .int) hx hb (hml.trans hl.1.symm) hown (hts _ qma_X11_18) (hts _ qnat_copy) (hts _ qsta_copy) (hts _ qini_sys) hK hP hD hS 5 2 0 0 rfl rfl rfl rfl rfl (by decide) (by decide) (by decide) (by decide) (by decide) (fun _ _ => rfl) (by rw [← erm]; exact Nat.le_of_ble_eq_true rfl) (by rw [← erm]; exact Nat.le_of_ble_eq_true rfl) dX11_copyFrom_27 (fun H locs hP hD hS => ?_)
  obtain ⟨g2, eg2⟩ : ∃ y : Nat → Int32, y = va_cpy s1.2.1 s0.2.1 0 0 8 := ⟨_, rfl⟩
  have h := x_let h eg2
  have hP : va_P D vwCl (WarW cA h0 ((Wars1 (Wars0 s0 g1) g2)) ++ WarW cA h1 s1) H := by rw [eg2]; exact hP
  have hD : va_D A (WarW cA h0 ((Wars1 (Wars0 s0 g1) g2)) ++ WarW cA h1 s1) := by rw [eg2]; exact hD
  refine lv_aload_n hx hb dX11_copyFrom_30 rfl (lv_at hl 0 rfl) ?_
  refine lv_aload_n hx hb dX11_copyFrom_31 rfl (lv_at hl 1 rfl) ?_
  refine va_get (D := D) (ci := 10) (v := .int s1.2.2) (C := RX11) (T := TX11) (N := 3) hx hb hts iX11 hown hK hP 3 rfl rfl 2 (by decide) (hts _ qfl_X11_24) (fun _ h9 => h9) rfl dX11_copyFrom_32 ?_
  refine va_put (D := D) (ci := 10) (v := .int s1.2.2) (ty := .int) (C := RX11) (T := TX11) (N := 3) hx hb hts iX11 tyX11 tyX11_ok nmX11 hown hK hP hD hS 0 rfl rfl 2 (by decide) (hts _ qfl_X11_24) (fun _ h9 => h9) rfl (by decide +kernel) rfl rfl (Nat.le_of_ble_eq_true rfl) dX11_copyFrom_35 (fun H locs hP hD hS => ?_)
  have hP : va_P D vwCl (WarW cA h0 ((Wars1 (Wars0 s1 g1) g2)) ++ WarW cA h1 s1) H := hP
  have hD : va_D A (WarW cA h0 ((Wars1 (Wars0 s1 g1) g2)) ++ WarW cA h1 s1) := hD
  have h := Option.some.inj h
  subst h
  exact xVret hx hb hr hlocks hP hK hD hS dX11_copyFrom_38
def fX11_costumes_L4 (N : Nat) (s0 : WarS) (K27 : Int32 → Option (Int32)) : Nat → Int32 → Int32 → Option (Int32)
  | 0, _, _ => none
  | n + 1, v1_2, v2_2 =>
    if s0.2.2 ≤ v2_2 then
      K27 v1_2
    else
      xrd 8 v2_2 fun k4 =>
      xlet (v1_2 + (s0.1 k4)) fun x5 =>
      xlet (v2_2 + (1)) fun x6 =>
      fX11_costumes_L4 N s0 K27 n x5 x6
def fX11_costumes (N : Nat)  (s0 : WarS) : Option (Int32) :=
  xjoin (fun (v1_1 : Int32) =>
      some v1_1
    ) fun K27 =>
  fX11_costumes_L4 N s0 K27 N 0 0
set_option maxRecDepth 100000 in
set_option maxHeartbeats 4000000 in
theorem kX11_costumes (l : Launch) (D : va_G) (cA : Nat → ClassId) (ad : Nat → Nat) (h0 : Nat → Nat) (sz N : Nat)  (s0 : WarS) (q : Int32) (h : fX11_costumes N s0 = some q) : zM l yX11_costumes cX11_costumes 3 (some .int) ({ frames := 0, cells := 0, slots := 0, locals := 0 }) D cA ad (WarW cA h0 s0) sz [.ref (h0 0)] (some (.int q)) (WarW cA h0 s0) := by
  generalize erm : ({ frames := 0, cells := 0, slots := 0, locals := 0 } : Room) = rm
  refine zMet (by decide) (Nat.le_of_ble_eq_true rfl) ?_
  intro p e s m below meth c hx hb hr hlocks hml hts hown hin hK hP A eA hD hS hA hsz hN hE ls hl
  have hl : lv_has ls 3 [(0, .ref (h0 0))] := hl
  clear eA
  rw [fX11_costumes] at h
  refine lv_iconst (v := 0) hx hb dX11_costumes_0 (by decide) ?_
  refine lv_istore_n (lv' := [(1, .int 0), (0, .ref (h0 0))]) hx hb dX11_costumes_1 rfl hl (by decide) rfl (fun ls hl => ?_)
  refine lv_iconst (v := 0) hx hb dX11_costumes_2 (by decide) ?_
  refine lv_istore_n (lv' := [(2, .int 0), (1, .int 0), (0, .ref (h0 0))]) hx hb dX11_costumes_3 rfl hl (by decide) rfl (fun ls hl => ?_)
  obtain ⟨K27, eK27, h⟩ := x_join h
  have hJ_K27 : ∀ (v1_1 : Int32) (H : Heap) (locs : List Loc), va_P D vwCl (WarW cA h0 s0) H → va_D A (WarW cA h0 s0) → va_S A s.heap H locs → ∀ ls : Array Slot, lv_has ls 3 [(1, .int v1_1)] → K27 v1_1 = some q → W p l e rm s m ([.ref (h0 0)] : List Value).toArray below meth c H locs 0 0 (MQ below (xQ D cA A (WarW cA h0 s0) (some (.int q))) ([.ref (h0 0)] : List Value).toArray s 0 0 A) (F0 m 27 ls []) := by
    clear h hP hD hS hl
    intro v1_1 H locs hP hD hS ls hl h
    rw [eK27] at h
    refine lv_iload_n hx hb dX11_costumes_27 rfl (lv_at hl 0 rfl) ?_
    have h := Option.some.inj h
    subst h
    exact xIret hx hb hr hlocks hP hK hD hS dX11_costumes_28
  have hL4 : ∀ (n : Nat) (v1_2 : Int32) (v2_2 : Int32) (H : Heap) (locs : List Loc), va_P D vwCl (WarW cA h0 s0) H → va_D A (WarW cA h0 s0) → va_S A s.heap H locs → ∀ ls : Array Slot, lv_has ls 3 [(0, .ref (h0 0)), (1, .int v1_2), (2, .int v2_2)] → fX11_costumes_L4 N s0 K27 n v1_2 v2_2 = some q → W p l e rm s m ([.ref (h0 0)] : List Value).toArray below meth c H locs 0 0 (MQ below (xQ D cA A (WarW cA h0 s0) (some (.int q))) ([.ref (h0 0)] : List Value).toArray s 0 0 A) (F0 m 4 ls []) := by
    clear h hP hD hS hl
    intro n
    induction n with
    | zero => intro v1_2 v2_2 H locs hP hD hS ls hl h; rw [fX11_costumes_L4] at h; cases h
    | succ n ih =>
      intro v1_2 v2_2 H locs hP hD hS ls hl h
      rw [fX11_costumes_L4] at h
      refine lv_iload_n hx hb dX11_costumes_4 rfl (lv_at hl 2 rfl) ?_
      refine lv_aload_n hx hb dX11_costumes_5 rfl (lv_at hl 0 rfl) ?_
      refine va_get (D := D) (ci := 10) (v := .int s0.2.2) (C := RX11) (T := TX11) (N := 3) hx hb hts iX11 hown hK hP 0 rfl rfl 2 (by decide) (hts _ qfl_X11_24) (fun _ h9 => h9) rfl dX11_costumes_6 ?_
      refine lv_icmp_ge (tgt := 27) hx hb dX11_costumes_9 (by decide) (fun c3 => ?_) (fun c3 => ?_)
      · have h := x_t h c3
        exact hJ_K27 v1_2 _ _ hP hD hS _ (lv_sub hl [1] rfl) h
      · have h := x_f h c3
        refine lv_iload_n hx hb dX11_costumes_12 rfl (lv_at hl 1 rfl) ?_
        refine lv_aload_n hx hb dX11_costumes_13 rfl (lv_at hl 0 rfl) ?_
        refine va_get (D := D) (ci := 10) (v := .ref (h0 1)) (C := RX11) (T := TX11) (N := 3) hx hb hts iX11 hown hK hP 0 rfl rfl 0 (by decide) (hts _ qfl_X11_9) (fun _ h9 => h9) rfl dX11_costumes_14 ?_
        refine lv_iload_n hx hb dX11_costumes_17 rfl (lv_at hl 2 rfl) ?_
        obtain ⟨k4, hk4, h⟩ := x_rd h
        refine xIald hx hb hK hP 1 0 rfl rfl hk4 dX11_costumes_18 ?_
        refine lv_iadd hx hb dX11_costumes_19 ?_
        refine lv_topi (fun x5 ex5 => ?_)
        have h := x_let h ex5
        refine lv_istore_n (lv' := [(1, .int x5), (0, .ref (h0 0)), (2, .int v2_2)]) hx hb dX11_costumes_20 rfl hl (by decide) rfl (fun ls hl => ?_)
        obtain ⟨x6, ex6⟩ : ∃ y : Int32, y = v2_2 + (1) := ⟨_, rfl⟩
        have h := x_let h ex6
        refine lv_iinc (v := x6) (lv' := [(2, .int x6), (1, .int x5), (0, .ref (h0 0))]) hx hb dX11_costumes_21 hl (k := 2) rfl (by rw [ex6]; rfl) (by decide) rfl (fun ls hl => ?_)
        refine lv_goto (tgt := 4) hx hb dX11_costumes_24 (by decide) ?_
        exact ih x5 x6 _ _ hP hD hS _ (lv_sub hl [2, 1, 0] rfl) h
  exact hL4 N 0 0 _ _ hP hD hS _ (lv_sub hl [2, 1, 0] rfl) h
def fX11_isTrade (N : Nat) (a0 : Int32) (a1 : Int32)  : Option (Int32) :=
  xcall (fX12_isWithin N a0 1 20) fun q1 =>
  xjoin (fun (t0_2 : Int32) =>
      xnz (xnar .boolean t0_2) <|
      some t0_2
    ) fun J25 =>
  xjoin (fun (u_4 : Unit) =>
      J25 0
    ) fun J24 =>
  if q1 = 0 then
    J24 ()
  else
    xcall (fX12_isWithin N a1 1 40) fun q6 =>
    if q6 = 0 then
      J24 ()
    else
      J25 1
set_option maxRecDepth 100000 in
set_option maxHeartbeats 4000000 in
theorem kX11_isTrade (l : Launch) (D : va_G) (cA : Nat → ClassId) (ad : Nat → Nat)  (sz N : Nat) (a0 : Int32) (a1 : Int32)  (q : Int32) (h : fX11_isTrade N a0 a1 = some q) : zM l yX11_isTrade cX11_isTrade 2 (some .boolean) ({ frames := 1, cells := 0, slots := 0, locals := 22 }) D cA ad (([] : va_W)) sz [.int a0, .int a1] (some (.int q)) (([] : va_W)) := by
  generalize erm : ({ frames := 1, cells := 0, slots := 0, locals := 22 } : Room) = rm
  refine zMet (by decide) (Nat.le_of_ble_eq_true rfl) ?_
  intro p e s m below meth c hx hb hr hlocks hml hts hown hin hK hP A eA hD hS hA hsz hN hE ls hl
  have hl : lv_has ls 2 [(0, .int a0), (1, .int a1)] := hl
  clear eA
  rw [fX11_isTrade] at h
  refine lv_iload_n hx hb dX11_isTrade_0 rfl (lv_at hl 0 rfl) ?_
  refine lv_iconst (v := 1) hx hb dX11_isTrade_1 (by decide) ?_
  refine lv_bipush (v := 20) hx hb dX11_isTrade_2 (by decide) ?_
  obtain ⟨q1, c1, h⟩ := x_call h
  refine xCall (w2 := ([] : va_W)) (xRunSN (n := 3) (As := [.int a0, .int 1, .int 20]) (rest := []) ⟨hx, hb, hml, hown, hts⟩ (kX12_isWithin l D cA  _ N a0 1 20 q1 c1) qco_X12_isWithin hN qmn_X11_28 qst_X12_isWithin qini_X12 (by decide +kernel) (by rw [← erm]; rfl) hK rfl rfl hl.1 rfl (lv_room (Nat.le_of_ble_eq_true rfl)) dX11_isTrade_4 ⟨Nat.zero_le _, Nat.zero_le _⟩) hP hD hS hA [] [] [] rfl (wr := []) rfl rfl rfl rfl rfl (fun H locs hP hD hS => ?_)
  obtain ⟨J25, eJ25, h⟩ := x_join h
  have hJ_J25 : ∀ (t0_2 : Int32) (H : Heap) (locs : List Loc), va_P D vwCl (([] : va_W)) H → va_D A (([] : va_W)) → va_S A s.heap H locs → ∀ ls : Array Slot, lv_has ls 2 [] → J25 t0_2 = some q → W p l e rm s m ([.int a0, .int a1] : List Value).toArray below meth c H locs 0 0 (MQ below (xQ D cA A (([] : va_W)) (some (.int q))) ([.int a0, .int a1] : List Value).toArray s 0 0 A) (F0 m 25 ls [.int t0_2]) := by
    clear h hP hD hS hl
    intro t0_2 H locs hP hD hS ls hl h
    rw [eJ25] at h
    obtain ⟨z3, h⟩ := x_nz h
    have h := Option.some.inj h
    subst h
    exact xZret hx hb hr hlocks (xnar_n z3) hP hK hD hS dX11_isTrade_25
  obtain ⟨J24, eJ24, h⟩ := x_join h
  have hJ_J24 : ∀ (u_4 : Unit) (H : Heap) (locs : List Loc), va_P D vwCl (([] : va_W)) H → va_D A (([] : va_W)) → va_S A s.heap H locs → ∀ ls : Array Slot, lv_has ls 2 [] → J24 u_4 = some q → W p l e rm s m ([.int a0, .int a1] : List Value).toArray below meth c H locs 0 0 (MQ below (xQ D cA A (([] : va_W)) (some (.int q))) ([.int a0, .int a1] : List Value).toArray s 0 0 A) (F0 m 24 ls []) := by
    clear h hP hD hS hl
    intro u_4 H locs hP hD hS ls hl h
    rw [eJ24] at h
    refine lv_iconst (v := 0) hx hb dX11_isTrade_24 (by decide) ?_
    exact hJ_J25 0 _ _ hP hD hS _ (lv_sub hl [] rfl) h
  refine lv_if_eq (tgt := 24) hx hb dX11_isTrade_7 (by decide) (fun c5 => ?_) (fun c5 => ?_)
  · have h := x_t h c5
    exact hJ_J24 () _ _ hP hD hS _ (lv_sub hl [] rfl) h
  · have h := x_f h c5
    refine lv_iload_n hx hb dX11_isTrade_10 rfl (lv_at hl 1 rfl) ?_
    refine lv_iconst (v := 1) hx hb dX11_isTrade_11 (by decide) ?_
    refine lv_bipush (v := 40) hx hb dX11_isTrade_12 (by decide) ?_
    obtain ⟨q6, c6, h⟩ := x_call h
    refine xCall (w2 := ([] : va_W)) (xRunSN (n := 3) (As := [.int a1, .int 1, .int 40]) (rest := []) ⟨hx, hb, hml, hown, hts⟩ (kX12_isWithin l D cA  _ N a1 1 40 q6 c6) qco_X12_isWithin hN qmn_X11_28 qst_X12_isWithin qini_X12 (by decide +kernel) (by rw [← erm]; rfl) hK rfl rfl hl.1 rfl (lv_room (Nat.le_of_ble_eq_true rfl)) dX11_isTrade_14 ⟨Nat.zero_le _, Nat.zero_le _⟩) hP hD hS hA [] [] [] rfl (wr := []) rfl rfl rfl rfl rfl (fun H locs hP hD hS => ?_)
    refine lv_if_eq (tgt := 24) hx hb dX11_isTrade_17 (by decide) (fun c7 => ?_) (fun c7 => ?_)
    · have h := x_t h c7
      exact hJ_J24 () _ _ hP hD hS _ (lv_sub hl [] rfl) h
    · have h := x_f h c7
      refine lv_iconst (v := 1) hx hb dX11_isTrade_20 (by decide) ?_
      refine lv_goto (tgt := 25) hx hb dX11_isTrade_21 (by decide) ?_
      exact hJ_J25 1 _ _ hP hD hS _ (lv_sub hl [] rfl) h
def fX11_faultOfCount (N : Nat) (a1 : Int32) (s0 : WarS) : Option (Nat) :=
  xcall (fX12_isWithin N a1 1 20) fun q1 =>
  if q1 = 0 then
    some 3
  else
    xcall (fX11_costumes N s0) fun q3 =>
    xjoin (fun (t0_4 : Nat) =>
        some t0_4
      ) fun J31 =>
    if q3 < a1 then
      J31 4
    else
      J31 0
set_option maxRecDepth 100000 in
set_option maxHeartbeats 4000000 in
theorem kX11_faultOfCount (l : Launch) (D : va_G) (cA : Nat → ClassId) (ad : Nat → Nat) (h0 : Nat → Nat) (sz N : Nat) (a1 : Int32) (s0 : WarS) (q : Nat) (h : fX11_faultOfCount N a1 s0 = some q) : zM l yX11_faultOfCount cX11_faultOfCount 2 (some (.object "TheatreLedger$Fault")) ({ frames := 1, cells := 0, slots := 0, locals := 22 }) D cA ad (WarW cA h0 s0) sz [.ref (h0 0), .int a1] (some (.ref (ad q))) (WarW cA h0 s0) := by
  generalize erm : ({ frames := 1, cells := 0, slots := 0, locals := 22 } : Room) = rm
  refine zMet (by decide) (Nat.le_of_ble_eq_true rfl) ?_
  intro p e s m below meth c hx hb hr hlocks hml hts hown hin hK hP A eA hD hS hA hsz hN hE ls hl
  have hl : lv_has ls 2 [(0, .ref (h0 0)), (1, .int a1)] := hl
  clear eA
  rw [fX11_faultOfCount] at h
  refine lv_iload_n hx hb dX11_faultOfCount_0 rfl (lv_at hl 1 rfl) ?_
  refine lv_iconst (v := 1) hx hb dX11_faultOfCount_1 (by decide) ?_
  refine lv_bipush (v := 20) hx hb dX11_faultOfCount_2 (by decide) ?_
  obtain ⟨q1, c1, h⟩ := x_call h
  refine xCall (w2 := WarW cA h0 s0) (xRunSN (n := 3) (As := [.int a1, .int 1, .int 20]) (rest := []) ⟨hx, hb, hml, hown, hts⟩ (kX12_isWithin l D cA  _ N a1 1 20 q1 c1) qco_X12_isWithin hN qmn_X11_28 qst_X12_isWithin qini_X12 (by decide +kernel) (by rw [← erm]; rfl) hK rfl rfl hl.1 rfl (lv_room (Nat.le_of_ble_eq_true rfl)) dX11_faultOfCount_4 ⟨Nat.zero_le _, Nat.zero_le _⟩) hP hD hS hA [] [0, 1, 2] [0, 1, 2] rfl (wr := [(h0 0, .inr (10, [.ref (h0 1), .ref (h0 2), .int (s0.2.2)])), (h0 1, .inl (cA 0, 8, .inl (s0.1))), (h0 2, .inl (cA 0, 8, .inl (s0.2.1)))]) rfl rfl rfl rfl rfl (fun H locs hP hD hS => ?_)
  refine lv_if_ne (tgt := 14) hx hb dX11_faultOfCount_7 (by decide) (fun c2 => ?_) (fun c2 => ?_)
  · have h := x_f h c2
    refine lv_iload_n hx hb dX11_faultOfCount_14 rfl (lv_at hl 1 rfl) ?_
    refine lv_aload_n hx hb dX11_faultOfCount_15 rfl (lv_at hl 0 rfl) ?_
    obtain ⟨q3, c3, h⟩ := x_call h
    refine xCall (w2 := WarW cA h0 s0) (zRunV (n := 0) (As := []) (rest := [.int a1]) ⟨hx, hb, hml, hown, hts⟩ (kX11_costumes l D cA ad h0 _ N s0 q3 c3) qco_X11_costumes qml_X11_38 qin_X11_costumes qse_X11_costumes qini_X11 (by decide +kernel) (by rw [← erm]; rfl) hN hE hS hA hK hP hD [0, 1, 2] rfl rfl (q0 := 0) rfl rfl rfl rfl rfl hl.1 rfl (lv_room (Nat.le_of_ble_eq_true rfl)) dX11_faultOfCount_16 ⟨Nat.zero_le _, Nat.zero_le _⟩) hP hD hS hA [0, 1, 2] [] [0, 1, 2] rfl (wr := []) rfl rfl rfl rfl rfl (fun H locs hP hD hS => ?_)
    obtain ⟨J31, eJ31, h⟩ := x_join h
    have hJ_J31 : ∀ (t0_4 : Nat) (H : Heap) (locs : List Loc), va_P D vwCl (WarW cA h0 s0) H → va_D A (WarW cA h0 s0) → va_S A s.heap H locs → ∀ ls : Array Slot, lv_has ls 2 [] → J31 t0_4 = some q → W p l e rm s m ([.ref (h0 0), .int a1] : List Value).toArray below meth c H locs 0 0 (MQ below (xQ D cA A (WarW cA h0 s0) (some (.ref (ad q)))) ([.ref (h0 0), .int a1] : List Value).toArray s 0 0 A) (F0 m 31 ls [.ref (ad t0_4)]) := by
      clear h hP hD hS hl
      intro t0_4 H locs hP hD hS ls hl h
      rw [eJ31] at h
      have h := Option.some.inj h
      subst h
      exact zAret (a := ad t0_4) hx hb hr hlocks hP hK hD hS dX11_faultOfCount_31
    refine lv_icmp_gt (tgt := 28) hx hb dX11_faultOfCount_19 (by decide) (fun c5 => ?_) (fun c5 => ?_)
    · have h := x_t h c5
      refine va_gets hx hb (xE.f4 hE) hS hown (hts _ qfl_X11_45) (fun _ h9 => h9) dX11_faultOfCount_28 ?_
      exact hJ_J31 4 _ _ hP hD hS _ (lv_sub hl [] rfl) h
    · have h := x_f h c5
      refine va_gets hx hb (xE.f0 hE) hS hown (hts _ qfl_X11_42) (fun _ h9 => h9) dX11_faultOfCount_22 ?_
      refine lv_goto (tgt := 31) hx hb dX11_faultOfCount_25 (by decide) ?_
      exact hJ_J31 0 _ _ hP hD hS _ (lv_sub hl [] rfl) h
  · have h := x_t h c2
    refine va_gets hx hb (xE.f3 hE) hS hown (hts _ qfl_X11_32) (fun _ h9 => h9) dX11_faultOfCount_10 ?_
    have h := Option.some.inj h
    subst h
    exact zAret (a := ad 3) hx hb hr hlocks hP hK hD hS dX11_faultOfCount_13
def fX11_faultOfSelling (N : Nat) (a1 : Int32) (a2 : Int32) (s0 : WarS) : Option (Nat) :=
  xcall (fX11_isTrade N a1 a2) fun q1 =>
  xjoin (fun (t0_2 : Nat) =>
      some t0_2
    ) fun J19 =>
  if q1 = 0 then
    J19 3
  else
    xcall (fX11_faultOfCount N a1 s0) fun q4 =>
    J19 q4
set_option maxRecDepth 100000 in
set_option maxHeartbeats 4000000 in
theorem kX11_faultOfSelling (l : Launch) (D : va_G) (cA : Nat → ClassId) (ad : Nat → Nat) (h0 : Nat → Nat) (sz N : Nat) (a1 : Int32) (a2 : Int32) (s0 : WarS) (q : Nat) (h : fX11_faultOfSelling N a1 a2 s0 = some q) : zM l yX11_faultOfSelling cX11_faultOfSelling 3 (some (.object "TheatreLedger$Fault")) ({ frames := 2, cells := 0, slots := 0, locals := 43 }) D cA ad (WarW cA h0 s0) sz [.ref (h0 0), .int a1, .int a2] (some (.ref (ad q))) (WarW cA h0 s0) := by
  generalize erm : ({ frames := 2, cells := 0, slots := 0, locals := 43 } : Room) = rm
  refine zMet (by decide) (Nat.le_of_ble_eq_true rfl) ?_
  intro p e s m below meth c hx hb hr hlocks hml hts hown hin hK hP A eA hD hS hA hsz hN hE ls hl
  have hl : lv_has ls 3 [(0, .ref (h0 0)), (1, .int a1), (2, .int a2)] := hl
  clear eA
  rw [fX11_faultOfSelling] at h
  refine lv_iload_n hx hb dX11_faultOfSelling_0 rfl (lv_at hl 1 rfl) ?_
  refine lv_iload_n hx hb dX11_faultOfSelling_1 rfl (lv_at hl 2 rfl) ?_
  obtain ⟨q1, c1, h⟩ := x_call h
  refine xCall (w2 := WarW cA h0 s0) (zRunS (n := 2) (As := [.int a1, .int a2]) (rest := []) ⟨hx, hb, hml, hown, hts⟩ (kX11_isTrade l D cA ad  _ N a1 a2 q1 c1) qco_X11_isTrade qml_X11_48 qst_X11_isTrade qini_X11 (by decide +kernel) (by rw [← erm]; rfl) hN hE hS hA hK hP hD [] rfl rfl rfl rfl hl.1 rfl (lv_room (Nat.le_of_ble_eq_true rfl)) dX11_faultOfSelling_2 ⟨Nat.zero_le _, Nat.zero_le _⟩) hP hD hS hA [] [0, 1, 2] [0, 1, 2] rfl (wr := [(h0 0, .inr (10, [.ref (h0 1), .ref (h0 2), .int (s0.2.2)])), (h0 1, .inl (cA 0, 8, .inl (s0.1))), (h0 2, .inl (cA 0, 8, .inl (s0.2.1)))]) rfl rfl rfl rfl rfl (fun H locs hP hD hS => ?_)
  obtain ⟨J19, eJ19, h⟩ := x_join h
  have hJ_J19 : ∀ (t0_2 : Nat) (H : Heap) (locs : List Loc), va_P D vwCl (WarW cA h0 s0) H → va_D A (WarW cA h0 s0) → va_S A s.heap H locs → ∀ ls : Array Slot, lv_has ls 3 [] → J19 t0_2 = some q → W p l e rm s m ([.ref (h0 0), .int a1, .int a2] : List Value).toArray below meth c H locs 0 0 (MQ below (xQ D cA A (WarW cA h0 s0) (some (.ref (ad q)))) ([.ref (h0 0), .int a1, .int a2] : List Value).toArray s 0 0 A) (F0 m 19 ls [.ref (ad t0_2)]) := by
    clear h hP hD hS hl
    intro t0_2 H locs hP hD hS ls hl h
    rw [eJ19] at h
    have h := Option.some.inj h
    subst h
    exact zAret (a := ad t0_2) hx hb hr hlocks hP hK hD hS dX11_faultOfSelling_19
  refine lv_if_eq (tgt := 16) hx hb dX11_faultOfSelling_5 (by decide) (fun c3 => ?_) (fun c3 => ?_)
  · have h := x_t h c3
    refine va_gets hx hb (xE.f3 hE) hS hown (hts _ qfl_X11_32) (fun _ h9 => h9) dX11_faultOfSelling_16 ?_
    exact hJ_J19 3 _ _ hP hD hS _ (lv_sub hl [] rfl) h
  · have h := x_f h c3
    refine lv_aload_n hx hb dX11_faultOfSelling_8 rfl (lv_at hl 0 rfl) ?_
    refine lv_iload_n hx hb dX11_faultOfSelling_9 rfl (lv_at hl 1 rfl) ?_
    obtain ⟨q4, c4, h⟩ := x_call h
    refine xCall (w2 := WarW cA h0 s0) (zRunV (n := 1) (As := [.int a1]) (rest := []) ⟨hx, hb, hml, hown, hts⟩ (kX11_faultOfCount l D cA ad h0 _ N a1 s0 q4 c4) qco_X11_faultOfCount qml_X11_52 qin_X11_faultOfCount qse_X11_faultOfCount qini_X11 (by decide +kernel) (by rw [← erm]; rfl) hN hE hS hA hK hP hD [0, 1, 2] rfl rfl (q0 := 0) rfl rfl rfl rfl rfl hl.1 rfl (lv_room (Nat.le_of_ble_eq_true rfl)) dX11_faultOfSelling_10 ⟨Nat.zero_le _, Nat.zero_le _⟩) hP hD hS hA [0, 1, 2] [] [0, 1, 2] rfl (wr := []) rfl rfl rfl rfl rfl (fun H locs hP hD hS => ?_)
    refine lv_goto (tgt := 19) hx hb dX11_faultOfSelling_13 (by decide) ?_
    exact hJ_J19 q4 _ _ hP hD hS _ (lv_sub hl [] rfl) h
def fX11_add (N : Nat) (a1 : Int32) (a2 : Int32) (s0 : WarS) : Option (WarS) :=
  xjoin (fun (s0_1 : WarS) =>
      some s0_1
    ) fun J39 =>
  if 8 ≤ s0.2.2 then
    J39 s0
  else
    xrd 8 s0.2.2 fun k3 =>
    xlet (upd s0.1 k3 a1) fun g4 =>
    xrd 8 s0.2.2 fun k5 =>
    xlet (upd s0.2.1 k5 a2) fun g6 =>
    xlet (s0.2.2 + 1) fun x7 =>
    J39 ((g4, g6, x7))
set_option maxRecDepth 100000 in
set_option maxHeartbeats 4000000 in
theorem kX11_add (l : Launch) (D : va_G) (cA : Nat → ClassId) (ad : Nat → Nat) (h0 : Nat → Nat) (sz N : Nat) (a1 : Int32) (a2 : Int32) (s0 : WarS) (q : WarS) (h : fX11_add N a1 a2 s0 = some q) : zM l yX11_add cX11_add 3 none ({ frames := 0, cells := 0, slots := 0, locals := 0 }) D cA ad (WarW cA h0 s0) sz [.ref (h0 0), .int a1, .int a2] (none) (WarW cA h0 q) := by
  generalize erm : ({ frames := 0, cells := 0, slots := 0, locals := 0 } : Room) = rm
  refine zMet (by decide) (Nat.le_of_ble_eq_true rfl) ?_
  intro p e s m below meth c hx hb hr hlocks hml hts hown hin hK hP A eA hD hS hA hsz hN hE ls hl
  have hl : lv_has ls 3 [(0, .ref (h0 0)), (1, .int a1), (2, .int a2)] := hl
  clear eA
  rw [fX11_add] at h
  refine lv_aload_n hx hb dX11_add_0 rfl (lv_at hl 0 rfl) ?_
  refine va_get (D := D) (ci := 10) (v := .int s0.2.2) (C := RX11) (T := TX11) (N := 3) hx hb hts iX11 hown hK hP 0 rfl rfl 2 (by decide) (hts _ qfl_X11_24) (fun _ h9 => h9) rfl dX11_add_1 ?_
  refine lv_bipush (v := 8) hx hb dX11_add_4 (by decide) ?_
  obtain ⟨J39, eJ39, h⟩ := x_join h
  have hJ_J39 : ∀ (s0_1 : WarS) (H : Heap) (locs : List Loc), va_P D vwCl (WarW cA h0 s0_1) H → va_D A (WarW cA h0 s0_1) → va_S A s.heap H locs → ∀ ls : Array Slot, lv_has ls 3 [] → J39 s0_1 = some q → W p l e rm s m ([.ref (h0 0), .int a1, .int a2] : List Value).toArray below meth c H locs 0 0 (MQ below (xQ D cA A (WarW cA h0 q) (none)) ([.ref (h0 0), .int a1, .int a2] : List Value).toArray s 0 0 A) (F0 m 39 ls []) := by
    clear h hP hD hS hl
    intro s0_1 H locs hP hD hS ls hl h
    rw [eJ39] at h
    have h := Option.some.inj h
    subst h
    exact xVret hx hb hr hlocks hP hK hD hS dX11_add_39
  refine lv_icmp_ge (tgt := 39) hx hb dX11_add_6 (by decide) (fun c2 => ?_) (fun c2 => ?_)
  · have h := x_t h c2
    exact hJ_J39 s0 _ _ hP hD hS _ (lv_sub hl [] rfl) h
  · have h := x_f h c2
    refine lv_aload_n hx hb dX11_add_9 rfl (lv_at hl 0 rfl) ?_
    refine va_get (D := D) (ci := 10) (v := .ref (h0 1)) (C := RX11) (T := TX11) (N := 3) hx hb hts iX11 hown hK hP 0 rfl rfl 0 (by decide) (hts _ qfl_X11_9) (fun _ h9 => h9) rfl dX11_add_10 ?_
    refine lv_aload_n hx hb dX11_add_13 rfl (lv_at hl 0 rfl) ?_
    refine va_get (D := D) (ci := 10) (v := .int s0.2.2) (C := RX11) (T := TX11) (N := 3) hx hb hts iX11 hown hK hP 0 rfl rfl 2 (by decide) (hts _ qfl_X11_24) (fun _ h9 => h9) rfl dX11_add_14 ?_
    refine lv_iload_n hx hb dX11_add_17 rfl (lv_at hl 1 rfl) ?_
    obtain ⟨k3, hk3, h⟩ := x_rd h
    refine xIast (w2 := fun zz => WarW cA h0 ((Wars0 s0 zz))) hx hb hK hP hD hS 1 0 rfl rfl hk3 (fun _ => rfl) dX11_add_18 (fun g4 eg4 H locs hP hD hS => ?_)
    have h := x_let h eg4
    have hP : va_P D vwCl (WarW cA h0 ((Wars0 s0 g4))) H := hP
    have hD : va_D A (WarW cA h0 ((Wars0 s0 g4))) := hD
    refine lv_aload_n hx hb dX11_add_19 rfl (lv_at hl 0 rfl) ?_
    refine va_get (D := D) (ci := 10) (v := .ref (h0 2)) (C := RX11) (T := TX11) (N := 3) hx hb hts iX11 hown hK hP 0 rfl rfl 1 (by decide) (hts _ qfl_X11_15) (fun _ h9 => h9) rfl dX11_add_20 ?_
    refine lv_aload_n hx hb dX11_add_23 rfl (lv_at hl 0 rfl) ?_
    refine va_get (D := D) (ci := 10) (v := .int s0.2.2) (C := RX11) (T := TX11) (N := 3) hx hb hts iX11 hown hK hP 0 rfl rfl 2 (by decide) (hts _ qfl_X11_24) (fun _ h9 => h9) rfl dX11_add_24 ?_
    refine lv_iload_n hx hb dX11_add_27 rfl (lv_at hl 2 rfl) ?_
    obtain ⟨k5, hk5, h⟩ := x_rd h
    refine xIast (w2 := fun zz => WarW cA h0 ((Wars1 (Wars0 s0 g4) zz))) hx hb hK hP hD hS 2 0 rfl rfl hk5 (fun _ => rfl) dX11_add_28 (fun g6 eg6 H locs hP hD hS => ?_)
    have h := x_let h eg6
    have hP : va_P D vwCl (WarW cA h0 ((Wars1 (Wars0 s0 g4) g6))) H := hP
    have hD : va_D A (WarW cA h0 ((Wars1 (Wars0 s0 g4) g6))) := hD
    refine lv_aload_n hx hb dX11_add_29 rfl (lv_at hl 0 rfl) ?_
    refine lv_dup hx hb dX11_add_30 rfl ?_
    refine va_get (D := D) (ci := 10) (v := .int s0.2.2) (C := RX11) (T := TX11) (N := 3) hx hb hts iX11 hown hK hP 0 rfl rfl 2 (by decide) (hts _ qfl_X11_24) (fun _ h9 => h9) rfl dX11_add_31 ?_
    refine lv_iconst (v := 1) hx hb dX11_add_34 (by decide) ?_
    refine lv_iadd hx hb dX11_add_35 ?_
    refine lv_topi (fun x7 ex7 => ?_)
    have h := x_let h ex7
    refine va_put (D := D) (ci := 10) (v := .int x7) (ty := .int) (C := RX11) (T := TX11) (N := 3) hx hb hts iX11 tyX11 tyX11_ok nmX11 hown hK hP hD hS 0 rfl rfl 2 (by decide) (hts _ qfl_X11_24) (fun _ h9 => h9) rfl (by decide +kernel) rfl rfl (Nat.le_of_ble_eq_true rfl) dX11_add_36 (fun H locs hP hD hS => ?_)
    have hP : va_P D vwCl (WarW cA h0 ((g4, g6, x7))) H := hP
    have hD : va_D A (WarW cA h0 ((g4, g6, x7))) := hD
    exact hJ_J39 ((g4, g6, x7)) _ _ hP hD hS _ (lv_sub hl [] rfl) h
def fX11_take_L7 (N : Nat) (K84 : Int32 → WarS → Option (WarS)) : Nat → Int32 → Int32 → Int32 → WarS → Option (WarS)
  | 0, _, _, _, _ => none
  | n + 1, v2_2, v3_2, v4_2, s0_2 =>
    if s0_2.2.2 ≤ v4_2 then
      K84 v3_2 s0_2
    else
      xrd 8 v4_2 fun k4 =>
      xcall (fJ9_min_7cf53 N v2_2 (s0_2.1 k4)) fun q5 =>
      xlet (v2_2 - q5) fun x6 =>
      xrd 8 v4_2 fun k7 =>
      xjoin (fun (v2_8 : Int32) (v3_8 : Int32) (v4_8 : Int32) (s0_8 : WarS) =>
          xlet (v4_8 + (1)) fun x9 =>
          fX11_take_L7 N K84 n v2_8 v3_8 x9 s0_8
        ) fun J78 =>
      if (s0_2.1 k7) ≤ q5 then
        J78 x6 v3_2 v4_2 s0_2
      else
        xrd 8 v4_2 fun k11 =>
        xrd 8 v3_2 fun k12 =>
        xlet (upd s0_2.1 k12 ((s0_2.1 k11) - q5)) fun g13 =>
        xrd 8 v4_2 fun k14 =>
        xrd 8 v3_2 fun k15 =>
        xlet (upd s0_2.2.1 k15 (s0_2.2.1 k14)) fun g16 =>
        xlet (v3_2 + (1)) fun x17 =>
        J78 x6 x17 v4_2 ((Wars1 (Wars0 s0_2 g13) g16))
def fX11_take (N : Nat) (a1 : Int32) (s0 : WarS) : Option (WarS) :=
  xjoin (fun (v3_1 : Int32) (s0_1 : WarS) =>
      some ((Wars2 s0_1 v3_1))
    ) fun K84 =>
  fX11_take_L7 N K84 N a1 0 0 s0
set_option maxRecDepth 100000 in
set_option maxHeartbeats 4000000 in
theorem kX11_take (l : Launch) (D : va_G) (cA : Nat → ClassId) (ad : Nat → Nat) (h0 : Nat → Nat) (sz N : Nat) (a1 : Int32) (s0 : WarS) (q : WarS) (h : fX11_take N a1 s0 = some q) : zM l yX11_take cX11_take 6 none ({ frames := 1, cells := 0, slots := 0, locals := 21 }) D cA ad (WarW cA h0 s0) sz [.ref (h0 0), .int a1] (none) (WarW cA h0 q) := by
  generalize erm : ({ frames := 1, cells := 0, slots := 0, locals := 21 } : Room) = rm
  refine zMet (by decide) (Nat.le_of_ble_eq_true rfl) ?_
  intro p e s m below meth c hx hb hr hlocks hml hts hown hin hK hP A eA hD hS hA hsz hN hE ls hl
  have hl : lv_has ls 6 [(0, .ref (h0 0)), (1, .int a1)] := hl
  clear eA
  rw [fX11_take] at h
  refine lv_iload_n hx hb dX11_take_0 rfl (lv_at hl 1 rfl) ?_
  refine lv_istore_n (lv' := [(2, .int a1), (0, .ref (h0 0)), (1, .int a1)]) hx hb dX11_take_1 rfl hl (by decide) rfl (fun ls hl => ?_)
  refine lv_iconst (v := 0) hx hb dX11_take_2 (by decide) ?_
  refine lv_istore_n (lv' := [(3, .int 0), (2, .int a1), (0, .ref (h0 0)), (1, .int a1)]) hx hb dX11_take_3 rfl hl (by decide) rfl (fun ls hl => ?_)
  refine lv_iconst (v := 0) hx hb dX11_take_4 (by decide) ?_
  refine lv_istore (lv' := [(4, .int 0), (3, .int 0), (2, .int a1), (0, .ref (h0 0)), (1, .int a1)]) hx hb dX11_take_5 hl (by decide) rfl (fun ls hl => ?_)
  obtain ⟨K84, eK84, h⟩ := x_join h
  have hJ_K84 : ∀ (v3_1 : Int32) (s0_1 : WarS) (H : Heap) (locs : List Loc), va_P D vwCl (WarW cA h0 s0_1) H → va_D A (WarW cA h0 s0_1) → va_S A s.heap H locs → ∀ ls : Array Slot, lv_has ls 6 [(0, .ref (h0 0)), (3, .int v3_1)] → K84 v3_1 s0_1 = some q → W p l e rm s m ([.ref (h0 0), .int a1] : List Value).toArray below meth c H locs 0 0 (MQ below (xQ D cA A (WarW cA h0 q) (none)) ([.ref (h0 0), .int a1] : List Value).toArray s 0 0 A) (F0 m 84 ls []) := by
    clear h hP hD hS hl
    intro v3_1 s0_1 H locs hP hD hS ls hl h
    rw [eK84] at h
    refine lv_aload_n hx hb dX11_take_84 rfl (lv_at hl 0 rfl) ?_
    refine lv_iload_n hx hb dX11_take_85 rfl (lv_at hl 1 rfl) ?_
    refine va_put (D := D) (ci := 10) (v := .int v3_1) (ty := .int) (C := RX11) (T := TX11) (N := 3) hx hb hts iX11 tyX11 tyX11_ok nmX11 hown hK hP hD hS 0 rfl rfl 2 (by decide) (hts _ qfl_X11_24) (fun _ h9 => h9) rfl (by decide +kernel) rfl rfl (Nat.le_of_ble_eq_true rfl) dX11_take_86 (fun H locs hP hD hS => ?_)
    have hP : va_P D vwCl (WarW cA h0 ((Wars2 s0_1 v3_1))) H := hP
    have hD : va_D A (WarW cA h0 ((Wars2 s0_1 v3_1))) := hD
    have h := Option.some.inj h
    subst h
    exact xVret hx hb hr hlocks hP hK hD hS dX11_take_89
  have hL7 : ∀ (n : Nat) (v2_2 : Int32) (v3_2 : Int32) (v4_2 : Int32) (s0_2 : WarS) (H : Heap) (locs : List Loc), va_P D vwCl (WarW cA h0 s0_2) H → va_D A (WarW cA h0 s0_2) → va_S A s.heap H locs → ∀ ls : Array Slot, lv_has ls 6 [(0, .ref (h0 0)), (2, .int v2_2), (3, .int v3_2), (4, .int v4_2)] → fX11_take_L7 N K84 n v2_2 v3_2 v4_2 s0_2 = some q → W p l e rm s m ([.ref (h0 0), .int a1] : List Value).toArray below meth c H locs 0 0 (MQ below (xQ D cA A (WarW cA h0 q) (none)) ([.ref (h0 0), .int a1] : List Value).toArray s 0 0 A) (F0 m 7 ls []) := by
    clear h hP hD hS hl
    intro n
    induction n with
    | zero => intro v2_2 v3_2 v4_2 s0_2 H locs hP hD hS ls hl h; rw [fX11_take_L7] at h; cases h
    | succ n ih =>
      intro v2_2 v3_2 v4_2 s0_2 H locs hP hD hS ls hl h
      rw [fX11_take_L7] at h
      refine lv_iload hx hb dX11_take_7 (lv_at hl 3 rfl) ?_
      refine lv_aload_n hx hb dX11_take_9 rfl (lv_at hl 0 rfl) ?_
      refine va_get (D := D) (ci := 10) (v := .int s0_2.2.2) (C := RX11) (T := TX11) (N := 3) hx hb hts iX11 hown hK hP 0 rfl rfl 2 (by decide) (hts _ qfl_X11_24) (fun _ h9 => h9) rfl dX11_take_10 ?_
      refine lv_icmp_ge (tgt := 84) hx hb dX11_take_13 (by decide) (fun c3 => ?_) (fun c3 => ?_)
      · have h := x_t h c3
        exact hJ_K84 v3_2 s0_2 _ _ hP hD hS _ (lv_sub hl [0, 2] rfl) h
      · have h := x_f h c3
        refine lv_iload_n hx hb dX11_take_16 rfl (lv_at hl 1 rfl) ?_
        refine lv_aload_n hx hb dX11_take_17 rfl (lv_at hl 0 rfl) ?_
        refine va_get (D := D) (ci := 10) (v := .ref (h0 1)) (C := RX11) (T := TX11) (N := 3) hx hb hts iX11 hown hK hP 0 rfl rfl 0 (by decide) (hts _ qfl_X11_9) (fun _ h9 => h9) rfl dX11_take_18 ?_
        refine lv_iload hx hb dX11_take_21 (lv_at hl 3 rfl) ?_
        obtain ⟨k4, hk4, h⟩ := x_rd h
        refine xIald hx hb hK hP 1 0 rfl rfl hk4 dX11_take_23 ?_
        obtain ⟨q5, c5, h⟩ := x_call h
        refine xCall (w2 := WarW cA h0 s0_2) (xRunS (n := 2) (As := [.int v2_2, .int (s0_2.1 k4)]) (rest := []) ⟨hx, hb, hml, hown, hts⟩ (kJ9_min_7cf53 l D cA  _ N v2_2 (s0_2.1 k4) q5 c5) qco_J9_min_7cf53 qml_X11_56 qst_J9_min_7cf53 qini_J9 (by decide +kernel) (by rw [← erm]; rfl) hK hP hD [] rfl rfl rfl rfl hl.1 rfl (lv_room (Nat.le_of_ble_eq_true rfl)) dX11_take_24 ⟨Nat.zero_le _, Nat.zero_le _⟩) hP hD hS hA [] [0, 1, 2] [0, 1, 2] rfl (wr := [(h0 0, .inr (10, [.ref (h0 1), .ref (h0 2), .int (s0_2.2.2)])), (h0 1, .inl (cA 0, 8, .inl (s0_2.1))), (h0 2, .inl (cA 0, 8, .inl (s0_2.2.1)))]) rfl rfl rfl rfl rfl (fun H locs hP hD hS => ?_)
        refine lv_istore (lv' := [(5, .int q5), (0, .ref (h0 0)), (2, .int v2_2), (3, .int v3_2), (4, .int v4_2)]) hx hb dX11_take_27 hl (by decide) rfl (fun ls hl => ?_)
        refine lv_iload_n hx hb dX11_take_29 rfl (lv_at hl 2 rfl) ?_
        refine lv_iload hx hb dX11_take_30 (lv_at hl 0 rfl) ?_
        refine lv_isub hx hb dX11_take_32 ?_
        refine lv_topi (fun x6 ex6 => ?_)
        have h := x_let h ex6
        refine lv_istore_n (lv' := [(2, .int x6), (5, .int q5), (0, .ref (h0 0)), (3, .int v3_2), (4, .int v4_2)]) hx hb dX11_take_33 rfl hl (by decide) rfl (fun ls hl => ?_)
        refine lv_aload_n hx hb dX11_take_34 rfl (lv_at hl 2 rfl) ?_
        refine va_get (D := D) (ci := 10) (v := .ref (h0 1)) (C := RX11) (T := TX11) (N := 3) hx hb hts iX11 hown hK hP 0 rfl rfl 0 (by decide) (hts _ qfl_X11_9) (fun _ h9 => h9) rfl dX11_take_35 ?_
        refine lv_iload hx hb dX11_take_38 (lv_at hl 4 rfl) ?_
        obtain ⟨k7, hk7, h⟩ := x_rd h
        refine xIald hx hb hK hP 1 0 rfl rfl hk7 dX11_take_40 ?_
        refine lv_iload hx hb dX11_take_41 (lv_at hl 1 rfl) ?_
        obtain ⟨J78, eJ78, h⟩ := x_join h
        have hJ_J78 : ∀ (v2_8 : Int32) (v3_8 : Int32) (v4_8 : Int32) (s0_8 : WarS) (H : Heap) (locs : List Loc), va_P D vwCl (WarW cA h0 s0_8) H → va_D A (WarW cA h0 s0_8) → va_S A s.heap H locs → ∀ ls : Array Slot, lv_has ls 6 [(0, .ref (h0 0)), (2, .int v2_8), (3, .int v3_8), (4, .int v4_8)] → J78 v2_8 v3_8 v4_8 s0_8 = some q → W p l e rm s m ([.ref (h0 0), .int a1] : List Value).toArray below meth c H locs 0 0 (MQ below (xQ D cA A (WarW cA h0 q) (none)) ([.ref (h0 0), .int a1] : List Value).toArray s 0 0 A) (F0 m 78 ls []) := by
          clear h hP hD hS hl
          intro v2_8 v3_8 v4_8 s0_8 H locs hP hD hS ls hl h
          rw [eJ78] at h
          obtain ⟨x9, ex9⟩ : ∃ y : Int32, y = v4_8 + (1) := ⟨_, rfl⟩
          have h := x_let h ex9
          refine lv_iinc (v := x9) (lv' := [(4, .int x9), (0, .ref (h0 0)), (2, .int v2_8), (3, .int v3_8)]) hx hb dX11_take_78 hl (k := 3) rfl (by rw [ex9]; rfl) (by decide) rfl (fun ls hl => ?_)
          refine lv_goto (tgt := 7) hx hb dX11_take_81 (by decide) ?_
          exact ih v2_8 v3_8 x9 s0_8 _ _ hP hD hS _ (lv_sub hl [1, 2, 3, 0] rfl) h
        refine lv_icmp_le (tgt := 78) hx hb dX11_take_43 (by decide) (fun c10 => ?_) (fun c10 => ?_)
        · have h := x_t h c10
          exact hJ_J78 x6 v3_2 v4_2 s0_2 _ _ hP hD hS _ (lv_sub hl [2, 0, 3, 4] rfl) h
        · have h := x_f h c10
          refine lv_aload_n hx hb dX11_take_46 rfl (lv_at hl 2 rfl) ?_
          refine va_get (D := D) (ci := 10) (v := .ref (h0 1)) (C := RX11) (T := TX11) (N := 3) hx hb hts iX11 hown hK hP 0 rfl rfl 0 (by decide) (hts _ qfl_X11_9) (fun _ h9 => h9) rfl dX11_take_47 ?_
          refine lv_iload_n hx hb dX11_take_50 rfl (lv_at hl 3 rfl) ?_
          refine lv_aload_n hx hb dX11_take_51 rfl (lv_at hl 2 rfl) ?_
          refine va_get (D := D) (ci := 10) (v := .ref (h0 1)) (C := RX11) (T := TX11) (N := 3) hx hb hts iX11 hown hK hP 0 rfl rfl 0 (by decide) (hts _ qfl_X11_9) (fun _ h9 => h9) rfl dX11_take_52 ?_
          refine lv_iload hx hb dX11_take_55 (lv_at hl 4 rfl) ?_
          obtain ⟨k11, hk11, h⟩ := x_rd h
          refine xIald hx hb hK hP 1 0 rfl rfl hk11 dX11_take_57 ?_
          refine lv_iload hx hb dX11_take_58 (lv_at hl 1 rfl) ?_
          refine lv_isub hx hb dX11_take_60 ?_
          obtain ⟨k12, hk12, h⟩ := x_rd h
          refine xIast (w2 := fun zz => WarW cA h0 ((Wars0 s0_2 zz))) hx hb hK hP hD hS 1 0 rfl rfl hk12 (fun _ => rfl) dX11_take_61 (fun g13 eg13 H locs hP hD hS => ?_)
          have h := x_let h eg13
          have hP : va_P D vwCl (WarW cA h0 ((Wars0 s0_2 g13))) H := hP
          have hD : va_D A (WarW cA h0 ((Wars0 s0_2 g13))) := hD
          refine lv_aload_n hx hb dX11_take_62 rfl (lv_at hl 2 rfl) ?_
          refine va_get (D := D) (ci := 10) (v := .ref (h0 2)) (C := RX11) (T := TX11) (N := 3) hx hb hts iX11 hown hK hP 0 rfl rfl 1 (by decide) (hts _ qfl_X11_15) (fun _ h9 => h9) rfl dX11_take_63 ?_
          refine lv_iload_n hx hb dX11_take_66 rfl (lv_at hl 3 rfl) ?_
          refine lv_aload_n hx hb dX11_take_67 rfl (lv_at hl 2 rfl) ?_
          refine va_get (D := D) (ci := 10) (v := .ref (h0 2)) (C := RX11) (T := TX11) (N := 3) hx hb hts iX11 hown hK hP 0 rfl rfl 1 (by decide) (hts _ qfl_X11_15) (fun _ h9 => h9) rfl dX11_take_68 ?_
          refine lv_iload hx hb dX11_take_71 (lv_at hl 4 rfl) ?_
          obtain ⟨k14, hk14, h⟩ := x_rd h
          refine xIald hx hb hK hP 2 0 rfl rfl hk14 dX11_take_73 ?_
          obtain ⟨k15, hk15, h⟩ := x_rd h
          refine xIast (w2 := fun zz => WarW cA h0 ((Wars1 (Wars0 s0_2 g13) zz))) hx hb hK hP hD hS 2 0 rfl rfl hk15 (fun _ => rfl) dX11_take_74 (fun g16 eg16 H locs hP hD hS => ?_)
          have h := x_let h eg16
          have hP : va_P D vwCl (WarW cA h0 ((Wars1 (Wars0 s0_2 g13) g16))) H := hP
          have hD : va_D A (WarW cA h0 ((Wars1 (Wars0 s0_2 g13) g16))) := hD
          obtain ⟨x17, ex17⟩ : ∃ y : Int32, y = v3_2 + (1) := ⟨_, rfl⟩
          have h := x_let h ex17
          refine lv_iinc (v := x17) (lv' := [(3, .int x17), (2, .int x6), (5, .int q5), (0, .ref (h0 0)), (4, .int v4_2)]) hx hb dX11_take_75 hl (k := 3) rfl (by rw [ex17]; rfl) (by decide) rfl (fun ls hl => ?_)
          exact hJ_J78 x6 x17 v4_2 ((Wars1 (Wars0 s0_2 g13) g16)) _ _ hP hD hS _ (lv_sub hl [3, 1, 0, 4] rfl) h
  exact hL7 N a1 0 0 s0 _ _ hP hD hS _ (lv_sub hl [3, 2, 1, 0] rfl) h
def fX11_costByLots_L7 (N : Nat) (s0 : WarS) (K53 : Int32 → Option (Int32)) : Nat → Int32 → Int32 → Int32 → Option (Int32)
  | 0, _, _, _ => none
  | n + 1, v2_2, v3_2, v4_2 =>
    if s0.2.2 ≤ v4_2 then
      K53 v3_2
    else
      xrd 8 v4_2 fun k4 =>
      xcall (fJ9_min_7cf53 N v2_2 (s0.1 k4)) fun q5 =>
      xlet (v2_2 - q5) fun x6 =>
      xrd 8 v4_2 fun k7 =>
      xlet (v3_2 + (q5 * (s0.2.1 k7))) fun x8 =>
      xlet (v4_2 + (1)) fun x9 =>
      fX11_costByLots_L7 N s0 K53 n x6 x8 x9
def fX11_costByLots (N : Nat) (a1 : Int32) (s0 : WarS) : Option (Int32) :=
  xjoin (fun (v3_1 : Int32) =>
      some v3_1
    ) fun K53 =>
  fX11_costByLots_L7 N s0 K53 N a1 0 0
set_option maxRecDepth 100000 in
set_option maxHeartbeats 4000000 in
theorem kX11_costByLots (l : Launch) (D : va_G) (cA : Nat → ClassId) (ad : Nat → Nat) (h0 : Nat → Nat) (sz N : Nat) (a1 : Int32) (s0 : WarS) (q : Int32) (h : fX11_costByLots N a1 s0 = some q) : zM l yX11_costByLots cX11_costByLots 6 (some .int) ({ frames := 1, cells := 0, slots := 0, locals := 21 }) D cA ad (WarW cA h0 s0) sz [.ref (h0 0), .int a1] (some (.int q)) (WarW cA h0 s0) := by
  generalize erm : ({ frames := 1, cells := 0, slots := 0, locals := 21 } : Room) = rm
  refine zMet (by decide) (Nat.le_of_ble_eq_true rfl) ?_
  intro p e s m below meth c hx hb hr hlocks hml hts hown hin hK hP A eA hD hS hA hsz hN hE ls hl
  have hl : lv_has ls 6 [(0, .ref (h0 0)), (1, .int a1)] := hl
  clear eA
  rw [fX11_costByLots] at h
  refine lv_iload_n hx hb dX11_costByLots_0 rfl (lv_at hl 1 rfl) ?_
  refine lv_istore_n (lv' := [(2, .int a1), (0, .ref (h0 0)), (1, .int a1)]) hx hb dX11_costByLots_1 rfl hl (by decide) rfl (fun ls hl => ?_)
  refine lv_iconst (v := 0) hx hb dX11_costByLots_2 (by decide) ?_
  refine lv_istore_n (lv' := [(3, .int 0), (2, .int a1), (0, .ref (h0 0)), (1, .int a1)]) hx hb dX11_costByLots_3 rfl hl (by decide) rfl (fun ls hl => ?_)
  refine lv_iconst (v := 0) hx hb dX11_costByLots_4 (by decide) ?_
  refine lv_istore (lv' := [(4, .int 0), (3, .int 0), (2, .int a1), (0, .ref (h0 0)), (1, .int a1)]) hx hb dX11_costByLots_5 hl (by decide) rfl (fun ls hl => ?_)
  obtain ⟨K53, eK53, h⟩ := x_join h
  have hJ_K53 : ∀ (v3_1 : Int32) (H : Heap) (locs : List Loc), va_P D vwCl (WarW cA h0 s0) H → va_D A (WarW cA h0 s0) → va_S A s.heap H locs → ∀ ls : Array Slot, lv_has ls 6 [(3, .int v3_1)] → K53 v3_1 = some q → W p l e rm s m ([.ref (h0 0), .int a1] : List Value).toArray below meth c H locs 0 0 (MQ below (xQ D cA A (WarW cA h0 s0) (some (.int q))) ([.ref (h0 0), .int a1] : List Value).toArray s 0 0 A) (F0 m 53 ls []) := by
    clear h hP hD hS hl
    intro v3_1 H locs hP hD hS ls hl h
    rw [eK53] at h
    refine lv_iload_n hx hb dX11_costByLots_53 rfl (lv_at hl 0 rfl) ?_
    have h := Option.some.inj h
    subst h
    exact xIret hx hb hr hlocks hP hK hD hS dX11_costByLots_54
  have hL7 : ∀ (n : Nat) (v2_2 : Int32) (v3_2 : Int32) (v4_2 : Int32) (H : Heap) (locs : List Loc), va_P D vwCl (WarW cA h0 s0) H → va_D A (WarW cA h0 s0) → va_S A s.heap H locs → ∀ ls : Array Slot, lv_has ls 6 [(0, .ref (h0 0)), (2, .int v2_2), (3, .int v3_2), (4, .int v4_2)] → fX11_costByLots_L7 N s0 K53 n v2_2 v3_2 v4_2 = some q → W p l e rm s m ([.ref (h0 0), .int a1] : List Value).toArray below meth c H locs 0 0 (MQ below (xQ D cA A (WarW cA h0 s0) (some (.int q))) ([.ref (h0 0), .int a1] : List Value).toArray s 0 0 A) (F0 m 7 ls []) := by
    clear h hP hD hS hl
    intro n
    induction n with
    | zero => intro v2_2 v3_2 v4_2 H locs hP hD hS ls hl h; rw [fX11_costByLots_L7] at h; cases h
    | succ n ih =>
      intro v2_2 v3_2 v4_2 H locs hP hD hS ls hl h
      rw [fX11_costByLots_L7] at h
      refine lv_iload hx hb dX11_costByLots_7 (lv_at hl 3 rfl) ?_
      refine lv_aload_n hx hb dX11_costByLots_9 rfl (lv_at hl 0 rfl) ?_
      refine va_get (D := D) (ci := 10) (v := .int s0.2.2) (C := RX11) (T := TX11) (N := 3) hx hb hts iX11 hown hK hP 0 rfl rfl 2 (by decide) (hts _ qfl_X11_24) (fun _ h9 => h9) rfl dX11_costByLots_10 ?_
      refine lv_icmp_ge (tgt := 53) hx hb dX11_costByLots_13 (by decide) (fun c3 => ?_) (fun c3 => ?_)
      · have h := x_t h c3
        exact hJ_K53 v3_2 _ _ hP hD hS _ (lv_sub hl [2] rfl) h
      · have h := x_f h c3
        refine lv_iload_n hx hb dX11_costByLots_16 rfl (lv_at hl 1 rfl) ?_
        refine lv_aload_n hx hb dX11_costByLots_17 rfl (lv_at hl 0 rfl) ?_
        refine va_get (D := D) (ci := 10) (v := .ref (h0 1)) (C := RX11) (T := TX11) (N := 3) hx hb hts iX11 hown hK hP 0 rfl rfl 0 (by decide) (hts _ qfl_X11_9) (fun _ h9 => h9) rfl dX11_costByLots_18 ?_
        refine lv_iload hx hb dX11_costByLots_21 (lv_at hl 3 rfl) ?_
        obtain ⟨k4, hk4, h⟩ := x_rd h
        refine xIald hx hb hK hP 1 0 rfl rfl hk4 dX11_costByLots_23 ?_
        obtain ⟨q5, c5, h⟩ := x_call h
        refine xCall (w2 := WarW cA h0 s0) (xRunS (n := 2) (As := [.int v2_2, .int (s0.1 k4)]) (rest := []) ⟨hx, hb, hml, hown, hts⟩ (kJ9_min_7cf53 l D cA  _ N v2_2 (s0.1 k4) q5 c5) qco_J9_min_7cf53 qml_X11_56 qst_J9_min_7cf53 qini_J9 (by decide +kernel) (by rw [← erm]; rfl) hK hP hD [] rfl rfl rfl rfl hl.1 rfl (lv_room (Nat.le_of_ble_eq_true rfl)) dX11_costByLots_24 ⟨Nat.zero_le _, Nat.zero_le _⟩) hP hD hS hA [] [0, 1, 2] [0, 1, 2] rfl (wr := [(h0 0, .inr (10, [.ref (h0 1), .ref (h0 2), .int (s0.2.2)])), (h0 1, .inl (cA 0, 8, .inl (s0.1))), (h0 2, .inl (cA 0, 8, .inl (s0.2.1)))]) rfl rfl rfl rfl rfl (fun H locs hP hD hS => ?_)
        refine lv_istore (lv' := [(5, .int q5), (0, .ref (h0 0)), (2, .int v2_2), (3, .int v3_2), (4, .int v4_2)]) hx hb dX11_costByLots_27 hl (by decide) rfl (fun ls hl => ?_)
        refine lv_iload_n hx hb dX11_costByLots_29 rfl (lv_at hl 2 rfl) ?_
        refine lv_iload hx hb dX11_costByLots_30 (lv_at hl 0 rfl) ?_
        refine lv_isub hx hb dX11_costByLots_32 ?_
        refine lv_topi (fun x6 ex6 => ?_)
        have h := x_let h ex6
        refine lv_istore_n (lv' := [(2, .int x6), (5, .int q5), (0, .ref (h0 0)), (3, .int v3_2), (4, .int v4_2)]) hx hb dX11_costByLots_33 rfl hl (by decide) rfl (fun ls hl => ?_)
        refine lv_iload_n hx hb dX11_costByLots_34 rfl (lv_at hl 3 rfl) ?_
        refine lv_iload hx hb dX11_costByLots_35 (lv_at hl 1 rfl) ?_
        refine lv_aload_n hx hb dX11_costByLots_37 rfl (lv_at hl 2 rfl) ?_
        refine va_get (D := D) (ci := 10) (v := .ref (h0 2)) (C := RX11) (T := TX11) (N := 3) hx hb hts iX11 hown hK hP 0 rfl rfl 1 (by decide) (hts _ qfl_X11_15) (fun _ h9 => h9) rfl dX11_costByLots_38 ?_
        refine lv_iload hx hb dX11_costByLots_41 (lv_at hl 4 rfl) ?_
        obtain ⟨k7, hk7, h⟩ := x_rd h
        refine xIald hx hb hK hP 2 0 rfl rfl hk7 dX11_costByLots_43 ?_
        refine lv_imul hx hb dX11_costByLots_44 ?_
        refine lv_iadd hx hb dX11_costByLots_45 ?_
        refine lv_topi (fun x8 ex8 => ?_)
        have h := x_let h ex8
        refine lv_istore_n (lv' := [(3, .int x8), (2, .int x6), (5, .int q5), (0, .ref (h0 0)), (4, .int v4_2)]) hx hb dX11_costByLots_46 rfl hl (by decide) rfl (fun ls hl => ?_)
        obtain ⟨x9, ex9⟩ : ∃ y : Int32, y = v4_2 + (1) := ⟨_, rfl⟩
        have h := x_let h ex9
        refine lv_iinc (v := x9) (lv' := [(4, .int x9), (3, .int x8), (2, .int x6), (5, .int q5), (0, .ref (h0 0))]) hx hb dX11_costByLots_47 hl (k := 4) rfl (by rw [ex9]; rfl) (by decide) rfl (fun ls hl => ?_)
        refine lv_goto (tgt := 7) hx hb dX11_costByLots_50 (by decide) ?_
        exact ih x6 x8 x9 _ _ hP hD hS _ (lv_sub hl [4, 2, 1, 0] rfl) h
  exact hL7 N a1 0 0 _ _ hP hD hS _ (lv_sub hl [3, 2, 1, 0] rfl) h
def fX11_priceOfCostume_L4 (N : Nat) (s0 : WarS) (K44 : Unit → Option (Int32)) : Nat → Int32 → Int32 → Option (Int32)
  | 0, _, _ => none
  | n + 1, v2_2, v3_2 =>
    if s0.2.2 ≤ v3_2 then
      K44 ()
    else
      xrd 8 v3_2 fun k4 =>
      if (s0.1 k4) ≤ v2_2 then
        xrd 8 v3_2 fun k6 =>
        xlet (v2_2 - (s0.1 k6)) fun x7 =>
        xlet (v3_2 + (1)) fun x8 =>
        fX11_priceOfCostume_L4 N s0 K44 n x7 x8
      else
        xrd 8 v3_2 fun k9 =>
        some (s0.2.1 k9)
def fX11_priceOfCostume (N : Nat) (a1 : Int32) (s0 : WarS) : Option (Int32) :=
  xjoin (fun (u_1 : Unit) =>
      some 0
    ) fun K44 =>
  fX11_priceOfCostume_L4 N s0 K44 N a1 0
set_option maxRecDepth 100000 in
set_option maxHeartbeats 4000000 in
theorem kX11_priceOfCostume (l : Launch) (D : va_G) (cA : Nat → ClassId) (ad : Nat → Nat) (h0 : Nat → Nat) (sz N : Nat) (a1 : Int32) (s0 : WarS) (q : Int32) (h : fX11_priceOfCostume N a1 s0 = some q) : zM l yX11_priceOfCostume cX11_priceOfCostume 4 (some .int) ({ frames := 0, cells := 0, slots := 0, locals := 0 }) D cA ad (WarW cA h0 s0) sz [.ref (h0 0), .int a1] (some (.int q)) (WarW cA h0 s0) := by
  generalize erm : ({ frames := 0, cells := 0, slots := 0, locals := 0 } : Room) = rm
  refine zMet (by decide) (Nat.le_of_ble_eq_true rfl) ?_
  intro p e s m below meth c hx hb hr hlocks hml hts hown hin hK hP A eA hD hS hA hsz hN hE ls hl
  have hl : lv_has ls 4 [(0, .ref (h0 0)), (1, .int a1)] := hl
  clear eA
  rw [fX11_priceOfCostume] at h
  refine lv_iload_n hx hb dX11_priceOfCostume_0 rfl (lv_at hl 1 rfl) ?_
  refine lv_istore_n (lv' := [(2, .int a1), (0, .ref (h0 0)), (1, .int a1)]) hx hb dX11_priceOfCostume_1 rfl hl (by decide) rfl (fun ls hl => ?_)
  refine lv_iconst (v := 0) hx hb dX11_priceOfCostume_2 (by decide) ?_
  refine lv_istore_n (lv' := [(3, .int 0), (2, .int a1), (0, .ref (h0 0)), (1, .int a1)]) hx hb dX11_priceOfCostume_3 rfl hl (by decide) rfl (fun ls hl => ?_)
  obtain ⟨K44, eK44, h⟩ := x_join h
  have hJ_K44 : ∀ (u_1 : Unit) (H : Heap) (locs : List Loc), va_P D vwCl (WarW cA h0 s0) H → va_D A (WarW cA h0 s0) → va_S A s.heap H locs → ∀ ls : Array Slot, lv_has ls 4 [] → K44 u_1 = some q → W p l e rm s m ([.ref (h0 0), .int a1] : List Value).toArray below meth c H locs 0 0 (MQ below (xQ D cA A (WarW cA h0 s0) (some (.int q))) ([.ref (h0 0), .int a1] : List Value).toArray s 0 0 A) (F0 m 44 ls []) := by
    clear h hP hD hS hl
    intro u_1 H locs hP hD hS ls hl h
    rw [eK44] at h
    refine lv_iconst (v := 0) hx hb dX11_priceOfCostume_44 (by decide) ?_
    have h := Option.some.inj h
    subst h
    exact xIret hx hb hr hlocks hP hK hD hS dX11_priceOfCostume_45
  have hL4 : ∀ (n : Nat) (v2_2 : Int32) (v3_2 : Int32) (H : Heap) (locs : List Loc), va_P D vwCl (WarW cA h0 s0) H → va_D A (WarW cA h0 s0) → va_S A s.heap H locs → ∀ ls : Array Slot, lv_has ls 4 [(0, .ref (h0 0)), (2, .int v2_2), (3, .int v3_2)] → fX11_priceOfCostume_L4 N s0 K44 n v2_2 v3_2 = some q → W p l e rm s m ([.ref (h0 0), .int a1] : List Value).toArray below meth c H locs 0 0 (MQ below (xQ D cA A (WarW cA h0 s0) (some (.int q))) ([.ref (h0 0), .int a1] : List Value).toArray s 0 0 A) (F0 m 4 ls []) := by
    clear h hP hD hS hl
    intro n
    induction n with
    | zero => intro v2_2 v3_2 H locs hP hD hS ls hl h; rw [fX11_priceOfCostume_L4] at h; cases h
    | succ n ih =>
      intro v2_2 v3_2 H locs hP hD hS ls hl h
      rw [fX11_priceOfCostume_L4] at h
      refine lv_iload_n hx hb dX11_priceOfCostume_4 rfl (lv_at hl 2 rfl) ?_
      refine lv_aload_n hx hb dX11_priceOfCostume_5 rfl (lv_at hl 0 rfl) ?_
      refine va_get (D := D) (ci := 10) (v := .int s0.2.2) (C := RX11) (T := TX11) (N := 3) hx hb hts iX11 hown hK hP 0 rfl rfl 2 (by decide) (hts _ qfl_X11_24) (fun _ h9 => h9) rfl dX11_priceOfCostume_6 ?_
      refine lv_icmp_ge (tgt := 44) hx hb dX11_priceOfCostume_9 (by decide) (fun c3 => ?_) (fun c3 => ?_)
      · have h := x_t h c3
        exact hJ_K44 () _ _ hP hD hS _ (lv_sub hl [] rfl) h
      · have h := x_f h c3
        refine lv_iload_n hx hb dX11_priceOfCostume_12 rfl (lv_at hl 1 rfl) ?_
        refine lv_aload_n hx hb dX11_priceOfCostume_13 rfl (lv_at hl 0 rfl) ?_
        refine va_get (D := D) (ci := 10) (v := .ref (h0 1)) (C := RX11) (T := TX11) (N := 3) hx hb hts iX11 hown hK hP 0 rfl rfl 0 (by decide) (hts _ qfl_X11_9) (fun _ h9 => h9) rfl dX11_priceOfCostume_14 ?_
        refine lv_iload_n hx hb dX11_priceOfCostume_17 rfl (lv_at hl 2 rfl) ?_
        obtain ⟨k4, hk4, h⟩ := x_rd h
        refine xIald hx hb hK hP 1 0 rfl rfl hk4 dX11_priceOfCostume_18 ?_
        refine lv_icmp_ge (tgt := 29) hx hb dX11_priceOfCostume_19 (by decide) (fun c5 => ?_) (fun c5 => ?_)
        · have h := x_t h c5
          refine lv_iload_n hx hb dX11_priceOfCostume_29 rfl (lv_at hl 1 rfl) ?_
          refine lv_aload_n hx hb dX11_priceOfCostume_30 rfl (lv_at hl 0 rfl) ?_
          refine va_get (D := D) (ci := 10) (v := .ref (h0 1)) (C := RX11) (T := TX11) (N := 3) hx hb hts iX11 hown hK hP 0 rfl rfl 0 (by decide) (hts _ qfl_X11_9) (fun _ h9 => h9) rfl dX11_priceOfCostume_31 ?_
          refine lv_iload_n hx hb dX11_priceOfCostume_34 rfl (lv_at hl 2 rfl) ?_
          obtain ⟨k6, hk6, h⟩ := x_rd h
          refine xIald hx hb hK hP 1 0 rfl rfl hk6 dX11_priceOfCostume_35 ?_
          refine lv_isub hx hb dX11_priceOfCostume_36 ?_
          refine lv_topi (fun x7 ex7 => ?_)
          have h := x_let h ex7
          refine lv_istore_n (lv' := [(2, .int x7), (0, .ref (h0 0)), (3, .int v3_2)]) hx hb dX11_priceOfCostume_37 rfl hl (by decide) rfl (fun ls hl => ?_)
          obtain ⟨x8, ex8⟩ : ∃ y : Int32, y = v3_2 + (1) := ⟨_, rfl⟩
          have h := x_let h ex8
          refine lv_iinc (v := x8) (lv' := [(3, .int x8), (2, .int x7), (0, .ref (h0 0))]) hx hb dX11_priceOfCostume_38 hl (k := 2) rfl (by rw [ex8]; rfl) (by decide) rfl (fun ls hl => ?_)
          refine lv_goto (tgt := 4) hx hb dX11_priceOfCostume_41 (by decide) ?_
          exact ih x7 x8 _ _ hP hD hS _ (lv_sub hl [2, 1, 0] rfl) h
        · have h := x_f h c5
          refine lv_aload_n hx hb dX11_priceOfCostume_22 rfl (lv_at hl 0 rfl) ?_
          refine va_get (D := D) (ci := 10) (v := .ref (h0 2)) (C := RX11) (T := TX11) (N := 3) hx hb hts iX11 hown hK hP 0 rfl rfl 1 (by decide) (hts _ qfl_X11_15) (fun _ h9 => h9) rfl dX11_priceOfCostume_23 ?_
          refine lv_iload_n hx hb dX11_priceOfCostume_26 rfl (lv_at hl 2 rfl) ?_
          obtain ⟨k9, hk9, h⟩ := x_rd h
          refine xIald hx hb hK hP 2 0 rfl rfl hk9 dX11_priceOfCostume_27 ?_
          have h := Option.some.inj h
          subst h
          exact xIret hx hb hr hlocks hP hK hD hS dX11_priceOfCostume_28
  exact hL4 N a1 0 _ _ hP hD hS _ (lv_sub hl [2, 1, 0] rfl) h
def fX11_costOneByOne_L4 (N : Nat) (s0 : WarS) (K23 : Int32 → Option (Int32)) : Nat → Int32 → Int32 → Int32 → Option (Int32)
  | 0, _, _, _ => none
  | n + 1, v1_2, v2_2, v3_2 =>
    if v1_2 ≤ v3_2 then
      K23 v2_2
    else
      xcall (fX11_priceOfCostume N v3_2 s0) fun q4 =>
      xlet (v2_2 + q4) fun x5 =>
      xlet (v3_2 + (1)) fun x6 =>
      fX11_costOneByOne_L4 N s0 K23 n v1_2 x5 x6
def fX11_costOneByOne (N : Nat) (a1 : Int32) (s0 : WarS) : Option (Int32) :=
  xjoin (fun (v2_1 : Int32) =>
      some v2_1
    ) fun K23 =>
  fX11_costOneByOne_L4 N s0 K23 N a1 0 0
set_option maxRecDepth 100000 in
set_option maxHeartbeats 4000000 in
theorem kX11_costOneByOne (l : Launch) (D : va_G) (cA : Nat → ClassId) (ad : Nat → Nat) (h0 : Nat → Nat) (sz N : Nat) (a1 : Int32) (s0 : WarS) (q : Int32) (h : fX11_costOneByOne N a1 s0 = some q) : zM l yX11_costOneByOne cX11_costOneByOne 4 (some .int) ({ frames := 1, cells := 0, slots := 0, locals := 23 }) D cA ad (WarW cA h0 s0) sz [.ref (h0 0), .int a1] (some (.int q)) (WarW cA h0 s0) := by
  generalize erm : ({ frames := 1, cells := 0, slots := 0, locals := 23 } : Room) = rm
  refine zMet (by decide) (Nat.le_of_ble_eq_true rfl) ?_
  intro p e s m below meth c hx hb hr hlocks hml hts hown hin hK hP A eA hD hS hA hsz hN hE ls hl
  have hl : lv_has ls 4 [(0, .ref (h0 0)), (1, .int a1)] := hl
  clear eA
  rw [fX11_costOneByOne] at h
  refine lv_iconst (v := 0) hx hb dX11_costOneByOne_0 (by decide) ?_
  refine lv_istore_n (lv' := [(2, .int 0), (0, .ref (h0 0)), (1, .int a1)]) hx hb dX11_costOneByOne_1 rfl hl (by decide) rfl (fun ls hl => ?_)
  refine lv_iconst (v := 0) hx hb dX11_costOneByOne_2 (by decide) ?_
  refine lv_istore_n (lv' := [(3, .int 0), (2, .int 0), (0, .ref (h0 0)), (1, .int a1)]) hx hb dX11_costOneByOne_3 rfl hl (by decide) rfl (fun ls hl => ?_)
  obtain ⟨K23, eK23, h⟩ := x_join h
  have hJ_K23 : ∀ (v2_1 : Int32) (H : Heap) (locs : List Loc), va_P D vwCl (WarW cA h0 s0) H → va_D A (WarW cA h0 s0) → va_S A s.heap H locs → ∀ ls : Array Slot, lv_has ls 4 [(2, .int v2_1)] → K23 v2_1 = some q → W p l e rm s m ([.ref (h0 0), .int a1] : List Value).toArray below meth c H locs 0 0 (MQ below (xQ D cA A (WarW cA h0 s0) (some (.int q))) ([.ref (h0 0), .int a1] : List Value).toArray s 0 0 A) (F0 m 23 ls []) := by
    clear h hP hD hS hl
    intro v2_1 H locs hP hD hS ls hl h
    rw [eK23] at h
    refine lv_iload_n hx hb dX11_costOneByOne_23 rfl (lv_at hl 0 rfl) ?_
    have h := Option.some.inj h
    subst h
    exact xIret hx hb hr hlocks hP hK hD hS dX11_costOneByOne_24
  have hL4 : ∀ (n : Nat) (v1_2 : Int32) (v2_2 : Int32) (v3_2 : Int32) (H : Heap) (locs : List Loc), va_P D vwCl (WarW cA h0 s0) H → va_D A (WarW cA h0 s0) → va_S A s.heap H locs → ∀ ls : Array Slot, lv_has ls 4 [(0, .ref (h0 0)), (1, .int v1_2), (2, .int v2_2), (3, .int v3_2)] → fX11_costOneByOne_L4 N s0 K23 n v1_2 v2_2 v3_2 = some q → W p l e rm s m ([.ref (h0 0), .int a1] : List Value).toArray below meth c H locs 0 0 (MQ below (xQ D cA A (WarW cA h0 s0) (some (.int q))) ([.ref (h0 0), .int a1] : List Value).toArray s 0 0 A) (F0 m 4 ls []) := by
    clear h hP hD hS hl
    intro n
    induction n with
    | zero => intro v1_2 v2_2 v3_2 H locs hP hD hS ls hl h; rw [fX11_costOneByOne_L4] at h; cases h
    | succ n ih =>
      intro v1_2 v2_2 v3_2 H locs hP hD hS ls hl h
      rw [fX11_costOneByOne_L4] at h
      refine lv_iload_n hx hb dX11_costOneByOne_4 rfl (lv_at hl 3 rfl) ?_
      refine lv_iload_n hx hb dX11_costOneByOne_5 rfl (lv_at hl 1 rfl) ?_
      refine lv_icmp_ge (tgt := 23) hx hb dX11_costOneByOne_6 (by decide) (fun c3 => ?_) (fun c3 => ?_)
      · have h := x_t h c3
        exact hJ_K23 v2_2 _ _ hP hD hS _ (lv_sub hl [2] rfl) h
      · have h := x_f h c3
        refine lv_iload_n hx hb dX11_costOneByOne_9 rfl (lv_at hl 2 rfl) ?_
        refine lv_aload_n hx hb dX11_costOneByOne_10 rfl (lv_at hl 0 rfl) ?_
        refine lv_iload_n hx hb dX11_costOneByOne_11 rfl (lv_at hl 3 rfl) ?_
        obtain ⟨q4, c4, h⟩ := x_call h
        refine xCall (w2 := WarW cA h0 s0) (zRunV (n := 1) (As := [.int v3_2]) (rest := [.int v2_2]) ⟨hx, hb, hml, hown, hts⟩ (kX11_priceOfCostume l D cA ad h0 _ N v3_2 s0 q4 c4) qco_X11_priceOfCostume qml_X11_62 qin_X11_priceOfCostume qse_X11_priceOfCostume qini_X11 (by decide +kernel) (by rw [← erm]; rfl) hN hE hS hA hK hP hD [0, 1, 2] rfl rfl (q0 := 0) rfl rfl rfl rfl rfl hl.1 rfl (lv_room (Nat.le_of_ble_eq_true rfl)) dX11_costOneByOne_12 ⟨Nat.zero_le _, Nat.zero_le _⟩) hP hD hS hA [0, 1, 2] [] [0, 1, 2] rfl (wr := []) rfl rfl rfl rfl rfl (fun H locs hP hD hS => ?_)
        refine lv_iadd hx hb dX11_costOneByOne_15 ?_
        refine lv_topi (fun x5 ex5 => ?_)
        have h := x_let h ex5
        refine lv_istore_n (lv' := [(2, .int x5), (0, .ref (h0 0)), (1, .int v1_2), (3, .int v3_2)]) hx hb dX11_costOneByOne_16 rfl hl (by decide) rfl (fun ls hl => ?_)
        obtain ⟨x6, ex6⟩ : ∃ y : Int32, y = v3_2 + (1) := ⟨_, rfl⟩
        have h := x_let h ex6
        refine lv_iinc (v := x6) (lv' := [(3, .int x6), (2, .int x5), (0, .ref (h0 0)), (1, .int v1_2)]) hx hb dX11_costOneByOne_17 hl (k := 3) rfl (by rw [ex6]; rfl) (by decide) rfl (fun ls hl => ?_)
        refine lv_goto (tgt := 4) hx hb dX11_costOneByOne_20 (by decide) ?_
        exact ih v1_2 x5 x6 _ _ hP hD hS _ (lv_sub hl [2, 3, 1, 0] rfl) h
  exact hL4 N a1 0 0 _ _ hP hD hS _ (lv_sub hl [2, 3, 1, 0] rfl) h
def fX11_costsAgree (N : Nat)  (s0 : WarS) : Option (Int32) :=
  xcall (fX11_costumes N s0) fun q1 =>
  xcall (fJ9_min_7cf53 N q1 20) fun q2 =>
  xcall (fX11_costByLots N q2 s0) fun q3 =>
  xcall (fX11_costOneByOne N q2 s0) fun q4 =>
  xjoin (fun (t0_5 : Int32) =>
      xnz (xnar .boolean t0_5) <|
      some t0_5
    ) fun J28 =>
  if q3 = q4 then
    J28 1
  else
    J28 0
set_option maxRecDepth 100000 in
set_option maxHeartbeats 4000000 in
theorem kX11_costsAgree (l : Launch) (D : va_G) (cA : Nat → ClassId) (ad : Nat → Nat) (h0 : Nat → Nat) (sz N : Nat)  (s0 : WarS) (q : Int32) (h : fX11_costsAgree N s0 = some q) : zM l yX11_costsAgree cX11_costsAgree 2 (some .boolean) ({ frames := 2, cells := 0, slots := 0, locals := 46 }) D cA ad (WarW cA h0 s0) sz [.ref (h0 0)] (some (.int q)) (WarW cA h0 s0) := by
  generalize erm : ({ frames := 2, cells := 0, slots := 0, locals := 46 } : Room) = rm
  refine zMet (by decide) (Nat.le_of_ble_eq_true rfl) ?_
  intro p e s m below meth c hx hb hr hlocks hml hts hown hin hK hP A eA hD hS hA hsz hN hE ls hl
  have hl : lv_has ls 2 [(0, .ref (h0 0))] := hl
  clear eA
  rw [fX11_costsAgree] at h
  refine lv_aload_n hx hb dX11_costsAgree_0 rfl (lv_at hl 0 rfl) ?_
  obtain ⟨q1, c1, h⟩ := x_call h
  refine xCall (w2 := WarW cA h0 s0) (zRunV (n := 0) (As := []) (rest := []) ⟨hx, hb, hml, hown, hts⟩ (kX11_costumes l D cA ad h0 _ N s0 q1 c1) qco_X11_costumes qml_X11_38 qin_X11_costumes qse_X11_costumes qini_X11 (by decide +kernel) (by rw [← erm]; rfl) hN hE hS hA hK hP hD [0, 1, 2] rfl rfl (q0 := 0) rfl rfl rfl rfl rfl hl.1 rfl (lv_room (Nat.le_of_ble_eq_true rfl)) dX11_costsAgree_1 ⟨Nat.zero_le _, Nat.zero_le _⟩) hP hD hS hA [0, 1, 2] [] [0, 1, 2] rfl (wr := []) rfl rfl rfl rfl rfl (fun H locs hP hD hS => ?_)
  refine lv_bipush (v := 20) hx hb dX11_costsAgree_4 (by decide) ?_
  obtain ⟨q2, c2, h⟩ := x_call h
  refine xCall (w2 := WarW cA h0 s0) (xRunS (n := 2) (As := [.int q1, .int 20]) (rest := []) ⟨hx, hb, hml, hown, hts⟩ (kJ9_min_7cf53 l D cA  _ N q1 20 q2 c2) qco_J9_min_7cf53 qml_X11_56 qst_J9_min_7cf53 qini_J9 (by decide +kernel) (by rw [← erm]; rfl) hK hP hD [] rfl rfl rfl rfl hl.1 rfl (lv_room (Nat.le_of_ble_eq_true rfl)) dX11_costsAgree_6 ⟨Nat.zero_le _, Nat.zero_le _⟩) hP hD hS hA [] [0, 1, 2] [0, 1, 2] rfl (wr := [(h0 0, .inr (10, [.ref (h0 1), .ref (h0 2), .int (s0.2.2)])), (h0 1, .inl (cA 0, 8, .inl (s0.1))), (h0 2, .inl (cA 0, 8, .inl (s0.2.1)))]) rfl rfl rfl rfl rfl (fun H locs hP hD hS => ?_)
  refine lv_istore_n (lv' := [(1, .int q2), (0, .ref (h0 0))]) hx hb dX11_costsAgree_9 rfl hl (by decide) rfl (fun ls hl => ?_)
  refine lv_aload_n hx hb dX11_costsAgree_10 rfl (lv_at hl 1 rfl) ?_
  refine lv_iload_n hx hb dX11_costsAgree_11 rfl (lv_at hl 0 rfl) ?_
  obtain ⟨q3, c3, h⟩ := x_call h
  refine xCall (w2 := WarW cA h0 s0) (zRunV (n := 1) (As := [.int q2]) (rest := []) ⟨hx, hb, hml, hown, hts⟩ (kX11_costByLots l D cA ad h0 _ N q2 s0 q3 c3) qco_X11_costByLots qml_X11_66 qin_X11_costByLots qse_X11_costByLots qini_X11 (by decide +kernel) (by rw [← erm]; rfl) hN hE hS hA hK hP hD [0, 1, 2] rfl rfl (q0 := 0) rfl rfl rfl rfl rfl hl.1 rfl (lv_room (Nat.le_of_ble_eq_true rfl)) dX11_costsAgree_12 ⟨Nat.zero_le _, Nat.zero_le _⟩) hP hD hS hA [0, 1, 2] [] [0, 1, 2] rfl (wr := []) rfl rfl rfl rfl rfl (fun H locs hP hD hS => ?_)
  refine lv_aload_n hx hb dX11_costsAgree_15 rfl (lv_at hl 1 rfl) ?_
  refine lv_iload_n hx hb dX11_costsAgree_16 rfl (lv_at hl 0 rfl) ?_
  obtain ⟨q4, c4, h⟩ := x_call h
  refine xCall (w2 := WarW cA h0 s0) (zRunV (n := 1) (As := [.int q2]) (rest := [.int q3]) ⟨hx, hb, hml, hown, hts⟩ (kX11_costOneByOne l D cA ad h0 _ N q2 s0 q4 c4) qco_X11_costOneByOne qml_X11_69 qin_X11_costOneByOne qse_X11_costOneByOne qini_X11 (by decide +kernel) (by rw [← erm]; rfl) hN hE hS hA hK hP hD [0, 1, 2] rfl rfl (q0 := 0) rfl rfl rfl rfl rfl hl.1 rfl (lv_room (Nat.le_of_ble_eq_true rfl)) dX11_costsAgree_17 ⟨Nat.zero_le _, Nat.zero_le _⟩) hP hD hS hA [0, 1, 2] [] [0, 1, 2] rfl (wr := []) rfl rfl rfl rfl rfl (fun H locs hP hD hS => ?_)
  obtain ⟨J28, eJ28, h⟩ := x_join h
  have hJ_J28 : ∀ (t0_5 : Int32) (H : Heap) (locs : List Loc), va_P D vwCl (WarW cA h0 s0) H → va_D A (WarW cA h0 s0) → va_S A s.heap H locs → ∀ ls : Array Slot, lv_has ls 2 [] → J28 t0_5 = some q → W p l e rm s m ([.ref (h0 0)] : List Value).toArray below meth c H locs 0 0 (MQ below (xQ D cA A (WarW cA h0 s0) (some (.int q))) ([.ref (h0 0)] : List Value).toArray s 0 0 A) (F0 m 28 ls [.int t0_5]) := by
    clear h hP hD hS hl
    intro t0_5 H locs hP hD hS ls hl h
    rw [eJ28] at h
    obtain ⟨z6, h⟩ := x_nz h
    have h := Option.some.inj h
    subst h
    exact xZret hx hb hr hlocks (xnar_n z6) hP hK hD hS dX11_costsAgree_28
  refine lv_icmp_ne (tgt := 27) hx hb dX11_costsAgree_20 (by decide) (fun c7 => ?_) (fun c7 => ?_)
  · have h := x_f h c7
    refine lv_iconst (v := 0) hx hb dX11_costsAgree_27 (by decide) ?_
    exact hJ_J28 0 _ _ hP hD hS _ (lv_sub hl [] rfl) h
  · have h := x_t h c7
    refine lv_iconst (v := 1) hx hb dX11_costsAgree_23 (by decide) ?_
    refine lv_goto (tgt := 28) hx hb dX11_costsAgree_24 (by decide) ?_
    exact hJ_J28 1 _ _ hP hD hS _ (lv_sub hl [] rfl) h
