/-! method by method: what it computes, and that its bytes compute it -/
def fX1_copyFrom (N : Nat)  (s0 : AccS) (s1 : AccS) : Option (AccS × AccS) :=
  xnz (xfitC 12 s1.1) <|
  xlet (va_cpy s1.1 s0.1 0 0 12) fun g2 =>
  xlet (va_cpy s1.2.1 s0.2.1 0 0 12) fun g3 =>
  xlet (va_cpy s1.2.2.1 s0.2.2.1 0 0 12) fun g4 =>
  xlet (va_cpy s1.2.2.2.1 s0.2.2.2.1 0 0 12) fun g5 =>
  some ((Accs3 (Accs2 (Accs1 (Accs0 s1 g2) g3) g4) g5), s1)
set_option maxRecDepth 100000 in
set_option maxHeartbeats 4000000 in
theorem kX1_copyFrom (l : Launch) (D : va_G) (cA : Nat → ClassId) (ad : Nat → Nat) (h0 : Nat → Nat) (h1 : Nat → Nat) (sz N : Nat)  (s0 : AccS) (s1 : AccS) (q : AccS × AccS) (h : fX1_copyFrom N s0 s1 = some q) : zM l yX1_copyFrom cX1_copyFrom 2 none ({ frames := 1, cells := 0, slots := 0, locals := 40 }) D cA ad (AccW cA h0 s0 ++ AccW cA h1 s1) sz [.ref (h0 0), .ref (h1 0)] (none) (AccW cA h0 q.1 ++ AccW cA h1 q.2) := by
  generalize erm : ({ frames := 1, cells := 0, slots := 0, locals := 40 } : Room) = rm
  refine zMet (by decide) (Nat.le_of_ble_eq_true rfl) ?_
  intro p e s m below meth c hx hb hr hlocks hml hts hown hin hK hP A eA hD hS hA hsz hN hE ls hl
  have hl : lv_has ls 2 [(0, .ref (h0 0)), (1, .ref (h1 0))] := hl
  clear eA
  rw [fX1_copyFrom] at h
  refine lv_aload_n hx hb dX1_copyFrom_0 rfl (lv_at hl 1 rfl) ?_
  refine va_get (D := D) (ci := 2) (v := .ref (h1 1)) (C := RX1) (T := TX1) (N := 5) hx hb hts iX1 hown hK hP 5 rfl rfl 0 (by decide) (hts _ qfl_X1_9) (fun _ h9 => h9) rfl dX1_copyFrom_1 ?_
  refine lv_iconst (v := 0) hx hb dX1_copyFrom_4 (by decide) ?_
  refine lv_aload_n hx hb dX1_copyFrom_5 rfl (lv_at hl 0 rfl) ?_
  refine va_get (D := D) (ci := 2) (v := .ref (h0 1)) (C := RX1) (T := TX1) (N := 5) hx hb hts iX1 hown hK hP 0 rfl rfl 0 (by decide) (hts _ qfl_X1_9) (fun _ h9 => h9) rfl dX1_copyFrom_6 ?_
  refine lv_iconst (v := 0) hx hb dX1_copyFrom_9 (by decide) ?_
  refine lv_bipush (v := 12) hx hb dX1_copyFrom_10 (by decide) ?_
  obtain ⟨z1, h⟩ := x_nz h
  refine va_copyi (n := 12) (sp := 0) (dp := 0) (ty := .char) hx hb (hml.trans hl.1.symm) hown (hts _ qma_X1_44) (hts _ qnat_copy) (hts _ qsta_copy) (hts _ qini_sys) hK hP hD hS 6 1 1 1 rfl rfl rfl rfl rfl (by decide) (by decide) (by decide) (by decide) (by decide) (fun i9 h9 => xfitC_s z1 i9 h9) (by rw [← erm]; exact Nat.le_of_ble_eq_true rfl) (by rw [← erm]; exact Nat.le_of_ble_eq_true rfl) dX1_copyFrom_12 (fun H locs hP hD hS => ?_)
  obtain ⟨g2, eg2⟩ : ∃ y : Nat → Int32, y = va_cpy s1.1 s0.1 0 0 12 := ⟨_, rfl⟩
  have h := x_let h eg2
  have hP : va_P D vwCl (AccW cA h0 ((Accs0 s0 g2)) ++ AccW cA h1 s1) H := by rw [eg2]; exact hP
  have hD : va_D A (AccW cA h0 ((Accs0 s0 g2)) ++ AccW cA h1 s1) := by rw [eg2]; exact hD
  refine lv_aload_n hx hb dX1_copyFrom_15 rfl (lv_at hl 1 rfl) ?_
  refine va_get (D := D) (ci := 2) (v := .ref (h1 2)) (C := RX1) (T := TX1) (N := 5) hx hb hts iX1 hown hK hP 5 rfl rfl 1 (by decide) (hts _ qfl_X1_15) (fun _ h9 => h9) rfl dX1_copyFrom_16 ?_
  refine lv_iconst (v := 0) hx hb dX1_copyFrom_19 (by decide) ?_
  refine lv_aload_n hx hb dX1_copyFrom_20 rfl (lv_at hl 0 rfl) ?_
  refine va_get (D := D) (ci := 2) (v := .ref (h0 2)) (C := RX1) (T := TX1) (N := 5) hx hb hts iX1 hown hK hP 0 rfl rfl 1 (by decide) (hts _ qfl_X1_15) (fun _ h9 => h9) rfl dX1_copyFrom_21 ?_
  refine lv_iconst (v := 0) hx hb dX1_copyFrom_24 (by decide) ?_
  refine lv_bipush (v := 12) hx hb dX1_copyFrom_25 (by decide) ?_
  refine va_copyi (n := 12) (sp := 0) (dp := 0) (ty := .int) hx hb (hml.trans hl.1.symm) hown (hts _ qma_X1_44) (hts _ qnat_copy) (hts _ qsta_copy) (hts _ qini_sys) hK hP hD hS 7 2 0 0 rfl rfl rfl rfl rfl (by decide) (by decide) (by decide) (by decide) (by decide) (fun _ _ => rfl) (by rw [← erm]; exact Nat.le_of_ble_eq_true rfl) (by rw [← erm]; exact Nat.le_of_ble_eq_true rfl) dX1_copyFrom_27 (fun H locs hP hD hS => ?_)
  obtain ⟨g3, eg3⟩ : ∃ y : Nat → Int32, y = va_cpy s1.2.1 s0.2.1 0 0 12 := ⟨_, rfl⟩
  have h := x_let h eg3
  have hP : va_P D vwCl (AccW cA h0 ((Accs1 (Accs0 s0 g2) g3)) ++ AccW cA h1 s1) H := by rw [eg3]; exact hP
  have hD : va_D A (AccW cA h0 ((Accs1 (Accs0 s0 g2) g3)) ++ AccW cA h1 s1) := by rw [eg3]; exact hD
  refine lv_aload_n hx hb dX1_copyFrom_30 rfl (lv_at hl 1 rfl) ?_
  refine va_get (D := D) (ci := 2) (v := .ref (h1 3)) (C := RX1) (T := TX1) (N := 5) hx hb hts iX1 hown hK hP 5 rfl rfl 2 (by decide) (hts _ qfl_X1_19) (fun _ h9 => h9) rfl dX1_copyFrom_31 ?_
  refine lv_iconst (v := 0) hx hb dX1_copyFrom_34 (by decide) ?_
  refine lv_aload_n hx hb dX1_copyFrom_35 rfl (lv_at hl 0 rfl) ?_
  refine va_get (D := D) (ci := 2) (v := .ref (h0 3)) (C := RX1) (T := TX1) (N := 5) hx hb hts iX1 hown hK hP 0 rfl rfl 2 (by decide) (hts _ qfl_X1_19) (fun _ h9 => h9) rfl dX1_copyFrom_36 ?_
  refine lv_iconst (v := 0) hx hb dX1_copyFrom_39 (by decide) ?_
  refine lv_bipush (v := 12) hx hb dX1_copyFrom_40 (by decide) ?_
  refine va_copyl (n := 12) (sp := 0) (dp := 0) (ty := .long) hx hb (hml.trans hl.1.symm) hown (hts _ qma_X1_44) (hts _ qnat_copy) (hts _ qsta_copy) (hts _ qini_sys) hK hP hD hS 8 3 2 2 rfl rfl rfl rfl rfl (by decide) (by decide) (by decide) (by decide) (by decide) (fun _ _ => rfl) (by rw [← erm]; exact Nat.le_of_ble_eq_true rfl) (by rw [← erm]; exact Nat.le_of_ble_eq_true rfl) dX1_copyFrom_42 (fun H locs hP hD hS => ?_)
  obtain ⟨g4, eg4⟩ : ∃ y : Nat → Int64, y = va_cpy s1.2.2.1 s0.2.2.1 0 0 12 := ⟨_, rfl⟩
  have h := x_let h eg4
  have hP : va_P D vwCl (AccW cA h0 ((Accs2 (Accs1 (Accs0 s0 g2) g3) g4)) ++ AccW cA h1 s1) H := by rw [eg4]; exact hP
  have hD : va_D A (AccW cA h0 ((Accs2 (Accs1 (Accs0 s0 g2) g3) g4)) ++ AccW cA h1 s1) := by rw [eg4]; exact hD
  refine lv_aload_n hx hb dX1_copyFrom_45 rfl (lv_at hl 1 rfl) ?_
  refine va_get (D := D) (ci := 2) (v := .ref (h1 4)) (C := RX1) (T := TX1) (N := 5) hx hb hts iX1 hown hK hP 5 rfl rfl 3 (by decide) (hts _ qfl_X1_23) (fun _ h9 => h9) rfl dX1_copyFrom_46 ?_
  refine lv_iconst (v := 0) hx hb dX1_copyFrom_49 (by decide) ?_
  refine lv_aload_n hx hb dX1_copyFrom_50 rfl (lv_at hl 0 rfl) ?_
  refine va_get (D := D) (ci := 2) (v := .ref (h0 4)) (C := RX1) (T := TX1) (N := 5) hx hb hts iX1 hown hK hP 0 rfl rfl 3 (by decide) (hts _ qfl_X1_23) (fun _ h9 => h9) rfl dX1_copyFrom_51 ?_
  refine lv_iconst (v := 0) hx hb dX1_copyFrom_54 (by decide) ?_
  refine lv_bipush (v := 12) hx hb dX1_copyFrom_55 (by decide) ?_
  refine va_copyl (n := 12) (sp := 0) (dp := 0) (ty := .long) hx hb (hml.trans hl.1.symm) hown (hts _ qma_X1_44) (hts _ qnat_copy) (hts _ qsta_copy) (hts _ qini_sys) hK hP hD hS 9 4 2 2 rfl rfl rfl rfl rfl (by decide) (by decide) (by decide) (by decide) (by decide) (fun _ _ => rfl) (by rw [← erm]; exact Nat.le_of_ble_eq_true rfl) (by rw [← erm]; exact Nat.le_of_ble_eq_true rfl) dX1_copyFrom_57 (fun H locs hP hD hS => ?_)
  obtain ⟨g5, eg5⟩ : ∃ y : Nat → Int64, y = va_cpy s1.2.2.2.1 s0.2.2.2.1 0 0 12 := ⟨_, rfl⟩
  have h := x_let h eg5
  have hP : va_P D vwCl (AccW cA h0 ((Accs3 (Accs2 (Accs1 (Accs0 s0 g2) g3) g4) g5)) ++ AccW cA h1 s1) H := by rw [eg5]; exact hP
  have hD : va_D A (AccW cA h0 ((Accs3 (Accs2 (Accs1 (Accs0 s0 g2) g3) g4) g5)) ++ AccW cA h1 s1) := by rw [eg5]; exact hD
  refine lv_aload_n hx hb dX1_copyFrom_60 rfl (lv_at hl 0 rfl) ?_
  refine lv_aload_n hx hb dX1_copyFrom_61 rfl (lv_at hl 1 rfl) ?_
  refine va_get (D := D) (ci := 2) (v := .int s1.2.2.2.2) (C := RX1) (T := TX1) (N := 5) hx hb hts iX1 hown hK hP 5 rfl rfl 4 (by decide) (hts _ qfl_X1_34) (fun _ h9 => h9) rfl dX1_copyFrom_62 ?_
  refine va_put (D := D) (ci := 2) (v := .int s1.2.2.2.2) (ty := .int) (C := RX1) (T := TX1) (N := 5) hx hb hts iX1 tyX1 tyX1_ok nmX1 hown hK hP hD hS 0 rfl rfl 4 (by decide) (hts _ qfl_X1_34) (fun _ h9 => h9) rfl (by decide +kernel) rfl rfl (Nat.le_of_ble_eq_true rfl) dX1_copyFrom_65 (fun H locs hP hD hS => ?_)
  have hP : va_P D vwCl (AccW cA h0 ((Accs3 (Accs2 (Accs1 (Accs0 s1 g2) g3) g4) g5)) ++ AccW cA h1 s1) H := hP
  have hD : va_D A (AccW cA h0 ((Accs3 (Accs2 (Accs1 (Accs0 s1 g2) g3) g4) g5)) ++ AccW cA h1 s1) := hD
  have h := Option.some.inj h
  subst h
  exact xVret hx hb hr hlocks hP hK hD hS dX1_copyFrom_68
def fX1_has (N : Nat) (a1 : Int32) (s0 : AccS) : Option (Int32) :=
  xcall (fX12_isWithin N a1 0 (s0.2.2.2.2 - 1)) fun q1 =>
  xnz (xnar .boolean q1) <|
  some q1
set_option maxRecDepth 100000 in
set_option maxHeartbeats 4000000 in
theorem kX1_has (l : Launch) (D : va_G) (cA : Nat → ClassId) (ad : Nat → Nat) (h0 : Nat → Nat) (sz N : Nat) (a1 : Int32) (s0 : AccS) (q : Int32) (h : fX1_has N a1 s0 = some q) : zM l yX1_has cX1_has 2 (some .boolean) ({ frames := 1, cells := 0, slots := 0, locals := 22 }) D cA ad (AccW cA h0 s0) sz [.ref (h0 0), .int a1] (some (.int q)) (AccW cA h0 s0) := by
  generalize erm : ({ frames := 1, cells := 0, slots := 0, locals := 22 } : Room) = rm
  refine zMet (by decide) (Nat.le_of_ble_eq_true rfl) ?_
  intro p e s m below meth c hx hb hr hlocks hml hts hown hin hK hP A eA hD hS hA hsz hN hE ls hl
  have hl : lv_has ls 2 [(0, .ref (h0 0)), (1, .int a1)] := hl
  clear eA
  rw [fX1_has] at h
  refine lv_iload_n hx hb dX1_has_0 rfl (lv_at hl 1 rfl) ?_
  refine lv_iconst (v := 0) hx hb dX1_has_1 (by decide) ?_
  refine lv_aload_n hx hb dX1_has_2 rfl (lv_at hl 0 rfl) ?_
  refine va_get (D := D) (ci := 2) (v := .int s0.2.2.2.2) (C := RX1) (T := TX1) (N := 5) hx hb hts iX1 hown hK hP 0 rfl rfl 4 (by decide) (hts _ qfl_X1_34) (fun _ h9 => h9) rfl dX1_has_3 ?_
  refine lv_iconst (v := 1) hx hb dX1_has_6 (by decide) ?_
  refine lv_isub hx hb dX1_has_7 ?_
  obtain ⟨q1, c1, h⟩ := x_call h
  refine xCall (w2 := AccW cA h0 s0) (xRunSN (n := 3) (As := [.int a1, .int 0, .int (s0.2.2.2.2 - 1)]) (rest := []) ⟨hx, hb, hml, hown, hts⟩ (kX12_isWithin l D cA  _ N a1 0 (s0.2.2.2.2 - 1) q1 c1) qco_X12_isWithin hN qmn_X1_50 qst_X12_isWithin qini_X12 (by decide +kernel) (by rw [← erm]; rfl) hK rfl rfl hl.1 rfl (lv_room (Nat.le_of_ble_eq_true rfl)) dX1_has_8 ⟨Nat.zero_le _, Nat.zero_le _⟩) hP hD hS hA [] [0, 1, 2, 3, 4] [0, 1, 2, 3, 4] rfl (wr := [(h0 0, .inr (2, [.ref (h0 1), .ref (h0 2), .ref (h0 3), .ref (h0 4), .int (s0.2.2.2.2)])), (h0 1, .inl (cA 1, 12, .inl (s0.1))), (h0 2, .inl (cA 0, 12, .inl (s0.2.1))), (h0 3, .inl (cA 2, 12, .inr (.inl (s0.2.2.1)))), (h0 4, .inl (cA 2, 12, .inr (.inl (s0.2.2.2.1))))]) rfl rfl rfl rfl rfl (fun H locs hP hD hS => ?_)
  obtain ⟨z2, h⟩ := x_nz h
  have h := Option.some.inj h
  subst h
  exact xZret hx hb hr hlocks (xnar_n z2) hP hK hD hS dX1_has_11
def fX1_faultOfNew (N : Nat) (a1 : Int32) (s0 : AccS) : Option (Nat) :=
  xcall (fX12_isKind N a1) fun q1 =>
  if q1 = 0 then
    some 3
  else
    xjoin (fun (t0_3 : Nat) =>
        some t0_3
      ) fun J29 =>
    if 12 ≤ s0.2.2.2.2 then
      J29 4
    else
      J29 0
set_option maxRecDepth 100000 in
set_option maxHeartbeats 4000000 in
theorem kX1_faultOfNew (l : Launch) (D : va_G) (cA : Nat → ClassId) (ad : Nat → Nat) (h0 : Nat → Nat) (sz N : Nat) (a1 : Int32) (s0 : AccS) (q : Nat) (h : fX1_faultOfNew N a1 s0 = some q) : zM l yX1_faultOfNew cX1_faultOfNew 2 (some (.object "TheatreLedger$Fault")) ({ frames := 1, cells := 0, slots := 0, locals := 20 }) D cA ad (AccW cA h0 s0) sz [.ref (h0 0), .int a1] (some (.ref (ad q))) (AccW cA h0 s0) := by
  generalize erm : ({ frames := 1, cells := 0, slots := 0, locals := 20 } : Room) = rm
  refine zMet (by decide) (Nat.le_of_ble_eq_true rfl) ?_
  intro p e s m below meth c hx hb hr hlocks hml hts hown hin hK hP A eA hD hS hA hsz hN hE ls hl
  have hl : lv_has ls 2 [(0, .ref (h0 0)), (1, .int a1)] := hl
  clear eA
  rw [fX1_faultOfNew] at h
  refine lv_iload_n hx hb dX1_faultOfNew_0 rfl (lv_at hl 1 rfl) ?_
  obtain ⟨q1, c1, h⟩ := x_call h
  refine xCall (w2 := AccW cA h0 s0) (xRunSN (n := 1) (As := [.int a1]) (rest := []) ⟨hx, hb, hml, hown, hts⟩ (kX12_isKind l D cA  _ N a1 q1 c1) qco_X12_isKind hN qmn_X1_54 qst_X12_isKind qini_X12 (by decide +kernel) (by rw [← erm]; rfl) hK rfl rfl hl.1 rfl (lv_room (Nat.le_of_ble_eq_true rfl)) dX1_faultOfNew_1 ⟨Nat.zero_le _, Nat.zero_le _⟩) hP hD hS hA [] [0, 1, 2, 3, 4] [0, 1, 2, 3, 4] rfl (wr := [(h0 0, .inr (2, [.ref (h0 1), .ref (h0 2), .ref (h0 3), .ref (h0 4), .int (s0.2.2.2.2)])), (h0 1, .inl (cA 1, 12, .inl (s0.1))), (h0 2, .inl (cA 0, 12, .inl (s0.2.1))), (h0 3, .inl (cA 2, 12, .inr (.inl (s0.2.2.1)))), (h0 4, .inl (cA 2, 12, .inr (.inl (s0.2.2.2.1))))]) rfl rfl rfl rfl rfl (fun H locs hP hD hS => ?_)
  refine lv_if_ne (tgt := 11) hx hb dX1_faultOfNew_4 (by decide) (fun c2 => ?_) (fun c2 => ?_)
  · have h := x_f h c2
    refine lv_aload_n hx hb dX1_faultOfNew_11 rfl (lv_at hl 0 rfl) ?_
    refine va_get (D := D) (ci := 2) (v := .int s0.2.2.2.2) (C := RX1) (T := TX1) (N := 5) hx hb hts iX1 hown hK hP 0 rfl rfl 4 (by decide) (hts _ qfl_X1_34) (fun _ h9 => h9) rfl dX1_faultOfNew_12 ?_
    refine lv_bipush (v := 12) hx hb dX1_faultOfNew_15 (by decide) ?_
    obtain ⟨J29, eJ29, h⟩ := x_join h
    have hJ_J29 : ∀ (t0_3 : Nat) (H : Heap) (locs : List Loc), va_P D vwCl (AccW cA h0 s0) H → va_D A (AccW cA h0 s0) → va_S A s.heap H locs → ∀ ls : Array Slot, lv_has ls 2 [] → J29 t0_3 = some q → W p l e rm s m ([.ref (h0 0), .int a1] : List Value).toArray below meth c H locs 0 0 (MQ below (xQ D cA A (AccW cA h0 s0) (some (.ref (ad q)))) ([.ref (h0 0), .int a1] : List Value).toArray s 0 0 A) (F0 m 29 ls [.ref (ad t0_3)]) := by
      clear h hP hD hS hl
      intro t0_3 H locs hP hD hS ls hl h
      rw [eJ29] at h
      have h := Option.some.inj h
      subst h
      exact zAret (a := ad t0_3) hx hb hr hlocks hP hK hD hS dX1_faultOfNew_29
    refine lv_icmp_ge (tgt := 26) hx hb dX1_faultOfNew_17 (by decide) (fun c4 => ?_) (fun c4 => ?_)
    · have h := x_t h c4
      refine va_gets hx hb (xE.f4 hE) hS hown (hts _ qfl_X1_67) (fun _ h9 => h9) dX1_faultOfNew_26 ?_
      exact hJ_J29 4 _ _ hP hD hS _ (lv_sub hl [] rfl) h
    · have h := x_f h c4
      refine va_gets hx hb (xE.f0 hE) hS hown (hts _ qfl_X1_64) (fun _ h9 => h9) dX1_faultOfNew_20 ?_
      refine lv_goto (tgt := 29) hx hb dX1_faultOfNew_23 (by decide) ?_
      exact hJ_J29 0 _ _ hP hD hS _ (lv_sub hl [] rfl) h
  · have h := x_t h c2
    refine va_gets hx hb (xE.f3 hE) hS hown (hts _ qfl_X1_58) (fun _ h9 => h9) dX1_faultOfNew_7 ?_
    have h := Option.some.inj h
    subst h
    exact zAret (a := ad 3) hx hb hr hlocks hP hK hD hS dX1_faultOfNew_10
def fX1_faultOfNewBelow (N : Nat) (a1 : Int32) (s0 : AccS) : Option (Nat) :=
  xcall (fX1_has N a1 s0) fun q1 =>
  if q1 = 0 then
    some 1
  else
    xjoin (fun (t0_3 : Nat) =>
        some t0_3
      ) fun J30 =>
    if 12 ≤ s0.2.2.2.2 then
      J30 4
    else
      J30 0
set_option maxRecDepth 100000 in
set_option maxHeartbeats 4000000 in
theorem kX1_faultOfNewBelow (l : Launch) (D : va_G) (cA : Nat → ClassId) (ad : Nat → Nat) (h0 : Nat → Nat) (sz N : Nat) (a1 : Int32) (s0 : AccS) (q : Nat) (h : fX1_faultOfNewBelow N a1 s0 = some q) : zM l yX1_faultOfNewBelow cX1_faultOfNewBelow 2 (some (.object "TheatreLedger$Fault")) ({ frames := 2, cells := 0, slots := 0, locals := 43 }) D cA ad (AccW cA h0 s0) sz [.ref (h0 0), .int a1] (some (.ref (ad q))) (AccW cA h0 s0) := by
  generalize erm : ({ frames := 2, cells := 0, slots := 0, locals := 43 } : Room) = rm
  refine zMet (by decide) (Nat.le_of_ble_eq_true rfl) ?_
  intro p e s m below meth c hx hb hr hlocks hml hts hown hin hK hP A eA hD hS hA hsz hN hE ls hl
  have hl : lv_has ls 2 [(0, .ref (h0 0)), (1, .int a1)] := hl
  clear eA
  rw [fX1_faultOfNewBelow] at h
  refine lv_aload_n hx hb dX1_faultOfNewBelow_0 rfl (lv_at hl 0 rfl) ?_
  refine lv_iload_n hx hb dX1_faultOfNewBelow_1 rfl (lv_at hl 1 rfl) ?_
  obtain ⟨q1, c1, h⟩ := x_call h
  refine xCall (w2 := AccW cA h0 s0) (zRunV (n := 1) (As := [.int a1]) (rest := []) ⟨hx, hb, hml, hown, hts⟩ (kX1_has l D cA ad h0 _ N a1 s0 q1 c1) qco_X1_has qml_X1_70 qin_X1_has qse_X1_has qini_X1 (by decide +kernel) (by rw [← erm]; rfl) hN hE hS hA hK hP hD [0, 1, 2, 3, 4] rfl rfl (q0 := 0) rfl rfl rfl rfl rfl hl.1 rfl (lv_room (Nat.le_of_ble_eq_true rfl)) dX1_faultOfNewBelow_2 ⟨Nat.zero_le _, Nat.zero_le _⟩) hP hD hS hA [0, 1, 2, 3, 4] [] [0, 1, 2, 3, 4] rfl (wr := []) rfl rfl rfl rfl rfl (fun H locs hP hD hS => ?_)
  refine lv_if_ne (tgt := 12) hx hb dX1_faultOfNewBelow_5 (by decide) (fun c2 => ?_) (fun c2 => ?_)
  · have h := x_f h c2
    refine lv_aload_n hx hb dX1_faultOfNewBelow_12 rfl (lv_at hl 0 rfl) ?_
    refine va_get (D := D) (ci := 2) (v := .int s0.2.2.2.2) (C := RX1) (T := TX1) (N := 5) hx hb hts iX1 hown hK hP 0 rfl rfl 4 (by decide) (hts _ qfl_X1_34) (fun _ h9 => h9) rfl dX1_faultOfNewBelow_13 ?_
    refine lv_bipush (v := 12) hx hb dX1_faultOfNewBelow_16 (by decide) ?_
    obtain ⟨J30, eJ30, h⟩ := x_join h
    have hJ_J30 : ∀ (t0_3 : Nat) (H : Heap) (locs : List Loc), va_P D vwCl (AccW cA h0 s0) H → va_D A (AccW cA h0 s0) → va_S A s.heap H locs → ∀ ls : Array Slot, lv_has ls 2 [] → J30 t0_3 = some q → W p l e rm s m ([.ref (h0 0), .int a1] : List Value).toArray below meth c H locs 0 0 (MQ below (xQ D cA A (AccW cA h0 s0) (some (.ref (ad q)))) ([.ref (h0 0), .int a1] : List Value).toArray s 0 0 A) (F0 m 30 ls [.ref (ad t0_3)]) := by
      clear h hP hD hS hl
      intro t0_3 H locs hP hD hS ls hl h
      rw [eJ30] at h
      have h := Option.some.inj h
      subst h
      exact zAret (a := ad t0_3) hx hb hr hlocks hP hK hD hS dX1_faultOfNewBelow_30
    refine lv_icmp_ge (tgt := 27) hx hb dX1_faultOfNewBelow_18 (by decide) (fun c4 => ?_) (fun c4 => ?_)
    · have h := x_t h c4
      refine va_gets hx hb (xE.f4 hE) hS hown (hts _ qfl_X1_67) (fun _ h9 => h9) dX1_faultOfNewBelow_27 ?_
      exact hJ_J30 4 _ _ hP hD hS _ (lv_sub hl [] rfl) h
    · have h := x_f h c4
      refine va_gets hx hb (xE.f0 hE) hS hown (hts _ qfl_X1_64) (fun _ h9 => h9) dX1_faultOfNewBelow_21 ?_
      refine lv_goto (tgt := 30) hx hb dX1_faultOfNewBelow_24 (by decide) ?_
      exact hJ_J30 0 _ _ hP hD hS _ (lv_sub hl [] rfl) h
  · have h := x_t h c2
    refine va_gets hx hb (xE.f1 hE) hS hown (hts _ qfl_X1_74) (fun _ h9 => h9) dX1_faultOfNewBelow_8 ?_
    have h := Option.some.inj h
    subst h
    exact zAret (a := ad 1) hx hb hr hlocks hP hK hD hS dX1_faultOfNewBelow_11
def fX1_faultOfEntry (N : Nat) (a1 : Int32) (a2 : Int32) (a3 : Int32) (s0 : AccS) : Option (Nat) :=
  xcall (fX1_has N a1 s0) fun q1 =>
  xjoin (fun (u_2 : Unit) =>
      some 1
    ) fun J16 =>
  if q1 = 0 then
    J16 ()
  else
    xcall (fX1_has N a2 s0) fun q4 =>
    if q4 = 0 then
      J16 ()
    else
      xjoin (fun (t0_6 : Nat) =>
          some t0_6
        ) fun J45 =>
      xjoin (fun (u_7 : Unit) =>
          J45 3
        ) fun J42 =>
      if a1 = a2 then
        J42 ()
      else
        xcall (fX12_isWithin N a3 1 999) fun q9 =>
        if q9 = 0 then
          J42 ()
        else
          J45 0
set_option maxRecDepth 100000 in
set_option maxHeartbeats 4000000 in
theorem kX1_faultOfEntry (l : Launch) (D : va_G) (cA : Nat → ClassId) (ad : Nat → Nat) (h0 : Nat → Nat) (sz N : Nat) (a1 : Int32) (a2 : Int32) (a3 : Int32) (s0 : AccS) (q : Nat) (h : fX1_faultOfEntry N a1 a2 a3 s0 = some q) : zM l yX1_faultOfEntry cX1_faultOfEntry 4 (some (.object "TheatreLedger$Fault")) ({ frames := 2, cells := 0, slots := 0, locals := 43 }) D cA ad (AccW cA h0 s0) sz [.ref (h0 0), .int a1, .int a2, .int a3] (some (.ref (ad q))) (AccW cA h0 s0) := by
  generalize erm : ({ frames := 2, cells := 0, slots := 0, locals := 43 } : Room) = rm
  refine zMet (by decide) (Nat.le_of_ble_eq_true rfl) ?_
  intro p e s m below meth c hx hb hr hlocks hml hts hown hin hK hP A eA hD hS hA hsz hN hE ls hl
  have hl : lv_has ls 4 [(0, .ref (h0 0)), (1, .int a1), (2, .int a2), (3, .int a3)] := hl
  clear eA
  rw [fX1_faultOfEntry] at h
  refine lv_aload_n hx hb dX1_faultOfEntry_0 rfl (lv_at hl 0 rfl) ?_
  refine lv_iload_n hx hb dX1_faultOfEntry_1 rfl (lv_at hl 1 rfl) ?_
  obtain ⟨q1, c1, h⟩ := x_call h
  refine xCall (w2 := AccW cA h0 s0) (zRunV (n := 1) (As := [.int a1]) (rest := []) ⟨hx, hb, hml, hown, hts⟩ (kX1_has l D cA ad h0 _ N a1 s0 q1 c1) qco_X1_has qml_X1_70 qin_X1_has qse_X1_has qini_X1 (by decide +kernel) (by rw [← erm]; rfl) hN hE hS hA hK hP hD [0, 1, 2, 3, 4] rfl rfl (q0 := 0) rfl rfl rfl rfl rfl hl.1 rfl (lv_room (Nat.le_of_ble_eq_true rfl)) dX1_faultOfEntry_2 ⟨Nat.zero_le _, Nat.zero_le _⟩) hP hD hS hA [0, 1, 2, 3, 4] [] [0, 1, 2, 3, 4] rfl (wr := []) rfl rfl rfl rfl rfl (fun H locs hP hD hS => ?_)
  obtain ⟨J16, eJ16, h⟩ := x_join h
  have hJ_J16 : ∀ (u_2 : Unit) (H : Heap) (locs : List Loc), va_P D vwCl (AccW cA h0 s0) H → va_D A (AccW cA h0 s0) → va_S A s.heap H locs → ∀ ls : Array Slot, lv_has ls 4 [] → J16 u_2 = some q → W p l e rm s m ([.ref (h0 0), .int a1, .int a2, .int a3] : List Value).toArray below meth c H locs 0 0 (MQ below (xQ D cA A (AccW cA h0 s0) (some (.ref (ad q)))) ([.ref (h0 0), .int a1, .int a2, .int a3] : List Value).toArray s 0 0 A) (F0 m 16 ls []) := by
    clear h hP hD hS hl
    intro u_2 H locs hP hD hS ls hl h
    rw [eJ16] at h
    refine va_gets hx hb (xE.f1 hE) hS hown (hts _ qfl_X1_74) (fun _ h9 => h9) dX1_faultOfEntry_16 ?_
    have h := Option.some.inj h
    subst h
    exact zAret (a := ad 1) hx hb hr hlocks hP hK hD hS dX1_faultOfEntry_19
  refine lv_if_eq (tgt := 16) hx hb dX1_faultOfEntry_5 (by decide) (fun c3 => ?_) (fun c3 => ?_)
  · have h := x_t h c3
    exact hJ_J16 () _ _ hP hD hS _ (lv_sub hl [] rfl) h
  · have h := x_f h c3
    refine lv_aload_n hx hb dX1_faultOfEntry_8 rfl (lv_at hl 0 rfl) ?_
    refine lv_iload_n hx hb dX1_faultOfEntry_9 rfl (lv_at hl 2 rfl) ?_
    obtain ⟨q4, c4, h⟩ := x_call h
    refine xCall (w2 := AccW cA h0 s0) (zRunV (n := 1) (As := [.int a2]) (rest := []) ⟨hx, hb, hml, hown, hts⟩ (kX1_has l D cA ad h0 _ N a2 s0 q4 c4) qco_X1_has qml_X1_70 qin_X1_has qse_X1_has qini_X1 (by decide +kernel) (by rw [← erm]; rfl) hN hE hS hA hK hP hD [0, 1, 2, 3, 4] rfl rfl (q0 := 0) rfl rfl rfl rfl rfl hl.1 rfl (lv_room (Nat.le_of_ble_eq_true rfl)) dX1_faultOfEntry_10 ⟨Nat.zero_le _, Nat.zero_le _⟩) hP hD hS hA [0, 1, 2, 3, 4] [] [0, 1, 2, 3, 4] rfl (wr := []) rfl rfl rfl rfl rfl (fun H locs hP hD hS => ?_)
    refine lv_if_ne (tgt := 20) hx hb dX1_faultOfEntry_13 (by decide) (fun c5 => ?_) (fun c5 => ?_)
    · have h := x_f h c5
      refine lv_iload_n hx hb dX1_faultOfEntry_20 rfl (lv_at hl 1 rfl) ?_
      refine lv_iload_n hx hb dX1_faultOfEntry_21 rfl (lv_at hl 2 rfl) ?_
      obtain ⟨J45, eJ45, h⟩ := x_join h
      have hJ_J45 : ∀ (t0_6 : Nat) (H : Heap) (locs : List Loc), va_P D vwCl (AccW cA h0 s0) H → va_D A (AccW cA h0 s0) → va_S A s.heap H locs → ∀ ls : Array Slot, lv_has ls 4 [] → J45 t0_6 = some q → W p l e rm s m ([.ref (h0 0), .int a1, .int a2, .int a3] : List Value).toArray below meth c H locs 0 0 (MQ below (xQ D cA A (AccW cA h0 s0) (some (.ref (ad q)))) ([.ref (h0 0), .int a1, .int a2, .int a3] : List Value).toArray s 0 0 A) (F0 m 45 ls [.ref (ad t0_6)]) := by
        clear h hP hD hS hl
        intro t0_6 H locs hP hD hS ls hl h
        rw [eJ45] at h
        have h := Option.some.inj h
        subst h
        exact zAret (a := ad t0_6) hx hb hr hlocks hP hK hD hS dX1_faultOfEntry_45
      obtain ⟨J42, eJ42, h⟩ := x_join h
      have hJ_J42 : ∀ (u_7 : Unit) (H : Heap) (locs : List Loc), va_P D vwCl (AccW cA h0 s0) H → va_D A (AccW cA h0 s0) → va_S A s.heap H locs → ∀ ls : Array Slot, lv_has ls 4 [] → J42 u_7 = some q → W p l e rm s m ([.ref (h0 0), .int a1, .int a2, .int a3] : List Value).toArray below meth c H locs 0 0 (MQ below (xQ D cA A (AccW cA h0 s0) (some (.ref (ad q)))) ([.ref (h0 0), .int a1, .int a2, .int a3] : List Value).toArray s 0 0 A) (F0 m 42 ls []) := by
        clear h hP hD hS hl
        intro u_7 H locs hP hD hS ls hl h
        rw [eJ42] at h
        refine va_gets hx hb (xE.f3 hE) hS hown (hts _ qfl_X1_58) (fun _ h9 => h9) dX1_faultOfEntry_42 ?_
        exact hJ_J45 3 _ _ hP hD hS _ (lv_sub hl [] rfl) h
      refine lv_icmp_eq (tgt := 42) hx hb dX1_faultOfEntry_22 (by decide) (fun c8 => ?_) (fun c8 => ?_)
      · have h := x_t h c8
        exact hJ_J42 () _ _ hP hD hS _ (lv_sub hl [] rfl) h
      · have h := x_f h c8
        refine lv_iload_n hx hb dX1_faultOfEntry_25 rfl (lv_at hl 3 rfl) ?_
        refine lv_iconst (v := 1) hx hb dX1_faultOfEntry_26 (by decide) ?_
        refine lv_sipush (v := 999) hx hb dX1_faultOfEntry_27 (by decide) ?_
        obtain ⟨q9, c9, h⟩ := x_call h
        refine xCall (w2 := AccW cA h0 s0) (xRunSN (n := 3) (As := [.int a3, .int 1, .int 999]) (rest := []) ⟨hx, hb, hml, hown, hts⟩ (kX12_isWithin l D cA  _ N a3 1 999 q9 c9) qco_X12_isWithin hN qmn_X1_50 qst_X12_isWithin qini_X12 (by decide +kernel) (by rw [← erm]; rfl) hK rfl rfl hl.1 rfl (lv_room (Nat.le_of_ble_eq_true rfl)) dX1_faultOfEntry_30 ⟨Nat.zero_le _, Nat.zero_le _⟩) hP hD hS hA [] [0, 1, 2, 3, 4] [0, 1, 2, 3, 4] rfl (wr := [(h0 0, .inr (2, [.ref (h0 1), .ref (h0 2), .ref (h0 3), .ref (h0 4), .int (s0.2.2.2.2)])), (h0 1, .inl (cA 1, 12, .inl (s0.1))), (h0 2, .inl (cA 0, 12, .inl (s0.2.1))), (h0 3, .inl (cA 2, 12, .inr (.inl (s0.2.2.1)))), (h0 4, .inl (cA 2, 12, .inr (.inl (s0.2.2.2.1))))]) rfl rfl rfl rfl rfl (fun H locs hP hD hS => ?_)
        refine lv_if_eq (tgt := 42) hx hb dX1_faultOfEntry_33 (by decide) (fun c10 => ?_) (fun c10 => ?_)
        · have h := x_t h c10
          exact hJ_J42 () _ _ hP hD hS _ (lv_sub hl [] rfl) h
        · have h := x_f h c10
          refine va_gets hx hb (xE.f0 hE) hS hown (hts _ qfl_X1_64) (fun _ h9 => h9) dX1_faultOfEntry_36 ?_
          refine lv_goto (tgt := 45) hx hb dX1_faultOfEntry_39 (by decide) ?_
          exact hJ_J45 0 _ _ hP hD hS _ (lv_sub hl [] rfl) h
    · have h := x_t h c5
      exact hJ_J16 () _ _ hP hD hS _ (lv_sub hl [] rfl) h
def fX1_add (N : Nat) (a1 : Int32) (a2 : Int32) (s0 : AccS) : Option (Int32 × AccS) :=
  xjoin (fun (v3_1 : Int32) (s0_1 : AccS) =>
      some (v3_1, s0_1)
    ) fun J49 =>
  if 12 ≤ s0.2.2.2.2 then
    J49 s0.2.2.2.2 s0
  else
    xrd 12 s0.2.2.2.2 fun k3 =>
    xlet (upd s0.1 k3 (vp_nar .char a1)) fun g4 =>
    xrd 12 s0.2.2.2.2 fun k5 =>
    xlet (upd s0.2.1 k5 a2) fun g6 =>
    xrd 12 s0.2.2.2.2 fun k7 =>
    xlet (vp_updL s0.2.2.1 k7 0) fun g8 =>
    xrd 12 s0.2.2.2.2 fun k9 =>
    xlet (vp_updL s0.2.2.2.1 k9 0) fun g10 =>
    xlet (s0.2.2.2.2 + 1) fun x11 =>
    J49 s0.2.2.2.2 ((g4, g6, g8, g10, x11))
set_option maxRecDepth 100000 in
set_option maxHeartbeats 4000000 in
theorem kX1_add (l : Launch) (D : va_G) (cA : Nat → ClassId) (ad : Nat → Nat) (h0 : Nat → Nat) (sz N : Nat) (a1 : Int32) (a2 : Int32) (s0 : AccS) (q : Int32 × AccS) (h : fX1_add N a1 a2 s0 = some q) : zM l yX1_add cX1_add 4 (some .int) ({ frames := 0, cells := 0, slots := 0, locals := 0 }) D cA ad (AccW cA h0 s0) sz [.ref (h0 0), .int a1, .int a2] (some (.int q.1)) (AccW cA h0 q.2) := by
  generalize erm : ({ frames := 0, cells := 0, slots := 0, locals := 0 } : Room) = rm
  refine zMet (by decide) (Nat.le_of_ble_eq_true rfl) ?_
  intro p e s m below meth c hx hb hr hlocks hml hts hown hin hK hP A eA hD hS hA hsz hN hE ls hl
  have hl : lv_has ls 4 [(0, .ref (h0 0)), (1, .int a1), (2, .int a2)] := hl
  clear eA
  rw [fX1_add] at h
  refine lv_aload_n hx hb dX1_add_0 rfl (lv_at hl 0 rfl) ?_
  refine va_get (D := D) (ci := 2) (v := .int s0.2.2.2.2) (C := RX1) (T := TX1) (N := 5) hx hb hts iX1 hown hK hP 0 rfl rfl 4 (by decide) (hts _ qfl_X1_34) (fun _ h9 => h9) rfl dX1_add_1 ?_
  refine lv_istore_n (lv' := [(3, .int s0.2.2.2.2), (0, .ref (h0 0)), (1, .int a1), (2, .int a2)]) hx hb dX1_add_4 rfl hl (by decide) rfl (fun ls hl => ?_)
  refine lv_iload_n hx hb dX1_add_5 rfl (lv_at hl 0 rfl) ?_
  refine lv_bipush (v := 12) hx hb dX1_add_6 (by decide) ?_
  obtain ⟨J49, eJ49, h⟩ := x_join h
  have hJ_J49 : ∀ (v3_1 : Int32) (s0_1 : AccS) (H : Heap) (locs : List Loc), va_P D vwCl (AccW cA h0 s0_1) H → va_D A (AccW cA h0 s0_1) → va_S A s.heap H locs → ∀ ls : Array Slot, lv_has ls 4 [(3, .int v3_1)] → J49 v3_1 s0_1 = some q → W p l e rm s m ([.ref (h0 0), .int a1, .int a2] : List Value).toArray below meth c H locs 0 0 (MQ below (xQ D cA A (AccW cA h0 q.2) (some (.int q.1))) ([.ref (h0 0), .int a1, .int a2] : List Value).toArray s 0 0 A) (F0 m 49 ls []) := by
    clear h hP hD hS hl
    intro v3_1 s0_1 H locs hP hD hS ls hl h
    rw [eJ49] at h
    refine lv_iload_n hx hb dX1_add_49 rfl (lv_at hl 0 rfl) ?_
    have h := Option.some.inj h
    subst h
    exact xIret hx hb hr hlocks hP hK hD hS dX1_add_50
  refine lv_icmp_ge (tgt := 49) hx hb dX1_add_8 (by decide) (fun c2 => ?_) (fun c2 => ?_)
  · have h := x_t h c2
    exact hJ_J49 s0.2.2.2.2 s0 _ _ hP hD hS _ (lv_sub hl [0] rfl) h
  · have h := x_f h c2
    refine lv_aload_n hx hb dX1_add_11 rfl (lv_at hl 1 rfl) ?_
    refine va_get (D := D) (ci := 2) (v := .ref (h0 1)) (C := RX1) (T := TX1) (N := 5) hx hb hts iX1 hown hK hP 0 rfl rfl 0 (by decide) (hts _ qfl_X1_9) (fun _ h9 => h9) rfl dX1_add_12 ?_
    refine lv_iload_n hx hb dX1_add_15 rfl (lv_at hl 0 rfl) ?_
    refine lv_iload_n hx hb dX1_add_16 rfl (lv_at hl 2 rfl) ?_
    obtain ⟨k3, hk3, h⟩ := x_rd h
    refine xCast (w2 := fun zz => AccW cA h0 ((Accs0 s0 zz))) hx hb hK hP hD hS 1 1 rfl rfl hk3 (fun _ => rfl) dX1_add_17 (fun g4 eg4 H locs hP hD hS => ?_)
    have h := x_let h eg4
    have hP : va_P D vwCl (AccW cA h0 ((Accs0 s0 g4))) H := hP
    have hD : va_D A (AccW cA h0 ((Accs0 s0 g4))) := hD
    refine lv_aload_n hx hb dX1_add_18 rfl (lv_at hl 1 rfl) ?_
    refine va_get (D := D) (ci := 2) (v := .ref (h0 2)) (C := RX1) (T := TX1) (N := 5) hx hb hts iX1 hown hK hP 0 rfl rfl 1 (by decide) (hts _ qfl_X1_15) (fun _ h9 => h9) rfl dX1_add_19 ?_
    refine lv_iload_n hx hb dX1_add_22 rfl (lv_at hl 0 rfl) ?_
    refine lv_iload_n hx hb dX1_add_23 rfl (lv_at hl 3 rfl) ?_
    obtain ⟨k5, hk5, h⟩ := x_rd h
    refine xIast (w2 := fun zz => AccW cA h0 ((Accs1 (Accs0 s0 g4) zz))) hx hb hK hP hD hS 2 0 rfl rfl hk5 (fun _ => rfl) dX1_add_24 (fun g6 eg6 H locs hP hD hS => ?_)
    have h := x_let h eg6
    have hP : va_P D vwCl (AccW cA h0 ((Accs1 (Accs0 s0 g4) g6))) H := hP
    have hD : va_D A (AccW cA h0 ((Accs1 (Accs0 s0 g4) g6))) := hD
    refine lv_aload_n hx hb dX1_add_25 rfl (lv_at hl 1 rfl) ?_
    refine va_get (D := D) (ci := 2) (v := .ref (h0 3)) (C := RX1) (T := TX1) (N := 5) hx hb hts iX1 hown hK hP 0 rfl rfl 2 (by decide) (hts _ qfl_X1_19) (fun _ h9 => h9) rfl dX1_add_26 ?_
    refine lv_iload_n hx hb dX1_add_29 rfl (lv_at hl 0 rfl) ?_
    refine lv_lconst (v := 0) hx hb dX1_add_30 (by decide) ?_
    obtain ⟨k7, hk7, h⟩ := x_rd h
    refine xLast (w2 := fun zz => AccW cA h0 ((Accs2 (Accs1 (Accs0 s0 g4) g6) zz))) hx hb hK hP hD hS 3 2 rfl rfl hk7 (fun _ => rfl) dX1_add_31 (fun g8 eg8 H locs hP hD hS => ?_)
    have h := x_let h eg8
    have hP : va_P D vwCl (AccW cA h0 ((Accs2 (Accs1 (Accs0 s0 g4) g6) g8))) H := hP
    have hD : va_D A (AccW cA h0 ((Accs2 (Accs1 (Accs0 s0 g4) g6) g8))) := hD
    refine lv_aload_n hx hb dX1_add_32 rfl (lv_at hl 1 rfl) ?_
    refine va_get (D := D) (ci := 2) (v := .ref (h0 4)) (C := RX1) (T := TX1) (N := 5) hx hb hts iX1 hown hK hP 0 rfl rfl 3 (by decide) (hts _ qfl_X1_23) (fun _ h9 => h9) rfl dX1_add_33 ?_
    refine lv_iload_n hx hb dX1_add_36 rfl (lv_at hl 0 rfl) ?_
    refine lv_lconst (v := 0) hx hb dX1_add_37 (by decide) ?_
    obtain ⟨k9, hk9, h⟩ := x_rd h
    refine xLast (w2 := fun zz => AccW cA h0 ((Accs3 (Accs2 (Accs1 (Accs0 s0 g4) g6) g8) zz))) hx hb hK hP hD hS 4 2 rfl rfl hk9 (fun _ => rfl) dX1_add_38 (fun g10 eg10 H locs hP hD hS => ?_)
    have h := x_let h eg10
    have hP : va_P D vwCl (AccW cA h0 ((Accs3 (Accs2 (Accs1 (Accs0 s0 g4) g6) g8) g10))) H := hP
    have hD : va_D A (AccW cA h0 ((Accs3 (Accs2 (Accs1 (Accs0 s0 g4) g6) g8) g10))) := hD
    refine lv_aload_n hx hb dX1_add_39 rfl (lv_at hl 1 rfl) ?_
    refine lv_dup hx hb dX1_add_40 rfl ?_
    refine va_get (D := D) (ci := 2) (v := .int s0.2.2.2.2) (C := RX1) (T := TX1) (N := 5) hx hb hts iX1 hown hK hP 0 rfl rfl 4 (by decide) (hts _ qfl_X1_34) (fun _ h9 => h9) rfl dX1_add_41 ?_
    refine lv_iconst (v := 1) hx hb dX1_add_44 (by decide) ?_
    refine lv_iadd hx hb dX1_add_45 ?_
    refine lv_topi (fun x11 ex11 => ?_)
    have h := x_let h ex11
    refine va_put (D := D) (ci := 2) (v := .int x11) (ty := .int) (C := RX1) (T := TX1) (N := 5) hx hb hts iX1 tyX1 tyX1_ok nmX1 hown hK hP hD hS 0 rfl rfl 4 (by decide) (hts _ qfl_X1_34) (fun _ h9 => h9) rfl (by decide +kernel) rfl rfl (Nat.le_of_ble_eq_true rfl) dX1_add_46 (fun H locs hP hD hS => ?_)
    have hP : va_P D vwCl (AccW cA h0 ((g4, g6, g8, g10, x11))) H := hP
    have hD : va_D A (AccW cA h0 ((g4, g6, g8, g10, x11))) := hD
    exact hJ_J49 s0.2.2.2.2 ((g4, g6, g8, g10, x11)) _ _ hP hD hS _ (lv_sub hl [0] rfl) h
def fX1_move (N : Nat) (a1 : Int32) (a2 : Int32) (a3 : Int64) (s0 : AccS) : Option (AccS) :=
  xrd 12 a1 fun k1 =>
  xrd 12 a1 fun k2 =>
  xlet (vp_updL s0.2.2.1 k2 ((s0.2.2.1 k1) + a3)) fun g3 =>
  xrd 12 a2 fun k4 =>
  xrd 12 a2 fun k5 =>
  xlet (vp_updL s0.2.2.2.1 k5 ((s0.2.2.2.1 k4) + a3)) fun g6 =>
  some ((Accs3 (Accs2 s0 g3) g6))
set_option maxRecDepth 100000 in
set_option maxHeartbeats 4000000 in
theorem kX1_move (l : Launch) (D : va_G) (cA : Nat → ClassId) (ad : Nat → Nat) (h0 : Nat → Nat) (sz N : Nat) (a1 : Int32) (a2 : Int32) (a3 : Int64) (s0 : AccS) (q : AccS) (h : fX1_move N a1 a2 a3 s0 = some q) : zM l yX1_move cX1_move 5 none ({ frames := 0, cells := 0, slots := 0, locals := 0 }) D cA ad (AccW cA h0 s0) sz [.ref (h0 0), .int a1, .int a2, .long a3] (none) (AccW cA h0 q) := by
  generalize erm : ({ frames := 0, cells := 0, slots := 0, locals := 0 } : Room) = rm
  refine zMet (by decide) (Nat.le_of_ble_eq_true rfl) ?_
  intro p e s m below meth c hx hb hr hlocks hml hts hown hin hK hP A eA hD hS hA hsz hN hE ls hl
  have hl : lv_has ls 5 [(0, .ref (h0 0)), (1, .int a1), (2, .int a2), (3, .long a3)] := hl
  clear eA
  rw [fX1_move] at h
  refine lv_aload_n hx hb dX1_move_0 rfl (lv_at hl 0 rfl) ?_
  refine va_get (D := D) (ci := 2) (v := .ref (h0 3)) (C := RX1) (T := TX1) (N := 5) hx hb hts iX1 hown hK hP 0 rfl rfl 2 (by decide) (hts _ qfl_X1_19) (fun _ h9 => h9) rfl dX1_move_1 ?_
  refine lv_iload_n hx hb dX1_move_4 rfl (lv_at hl 1 rfl) ?_
  refine lv_dup2_11 hx hb dX1_move_5 rfl rfl ?_
  obtain ⟨k1, hk1, h⟩ := x_rd h
  refine xLald hx hb hK hP 3 2 rfl rfl hk1 dX1_move_6 ?_
  refine lv_lload_n hx hb dX1_move_7 rfl (lv_at hl 3 rfl) ?_
  refine lv_ladd hx hb dX1_move_8 ?_
  obtain ⟨k2, hk2, h⟩ := x_rd h
  refine xLast (w2 := fun zz => AccW cA h0 ((Accs2 s0 zz))) hx hb hK hP hD hS 3 2 rfl rfl hk2 (fun _ => rfl) dX1_move_9 (fun g3 eg3 H locs hP hD hS => ?_)
  have h := x_let h eg3
  have hP : va_P D vwCl (AccW cA h0 ((Accs2 s0 g3))) H := hP
  have hD : va_D A (AccW cA h0 ((Accs2 s0 g3))) := hD
  refine lv_aload_n hx hb dX1_move_10 rfl (lv_at hl 0 rfl) ?_
  refine va_get (D := D) (ci := 2) (v := .ref (h0 4)) (C := RX1) (T := TX1) (N := 5) hx hb hts iX1 hown hK hP 0 rfl rfl 3 (by decide) (hts _ qfl_X1_23) (fun _ h9 => h9) rfl dX1_move_11 ?_
  refine lv_iload_n hx hb dX1_move_14 rfl (lv_at hl 2 rfl) ?_
  refine lv_dup2_11 hx hb dX1_move_15 rfl rfl ?_
  obtain ⟨k4, hk4, h⟩ := x_rd h
  refine xLald hx hb hK hP 4 2 rfl rfl hk4 dX1_move_16 ?_
  refine lv_lload_n hx hb dX1_move_17 rfl (lv_at hl 3 rfl) ?_
  refine lv_ladd hx hb dX1_move_18 ?_
  obtain ⟨k5, hk5, h⟩ := x_rd h
  refine xLast (w2 := fun zz => AccW cA h0 ((Accs3 (Accs2 s0 g3) zz))) hx hb hK hP hD hS 4 2 rfl rfl hk5 (fun _ => rfl) dX1_move_19 (fun g6 eg6 H locs hP hD hS => ?_)
  have h := x_let h eg6
  have hP : va_P D vwCl (AccW cA h0 ((Accs3 (Accs2 s0 g3) g6))) H := hP
  have hD : va_D A (AccW cA h0 ((Accs3 (Accs2 s0 g3) g6))) := hD
  have h := Option.some.inj h
  subst h
  exact xVret hx hb hr hlocks hP hK hD hS dX1_move_20
def fX1_kindAt (N : Nat) (a1 : Int32) (s0 : AccS) : Option (Int32) :=
  xrd 12 a1 fun k1 =>
  xnz (xnar .char (s0.1 k1)) <|
  some (s0.1 k1)
set_option maxRecDepth 100000 in
set_option maxHeartbeats 4000000 in
theorem kX1_kindAt (l : Launch) (D : va_G) (cA : Nat → ClassId) (ad : Nat → Nat) (h0 : Nat → Nat) (sz N : Nat) (a1 : Int32) (s0 : AccS) (q : Int32) (h : fX1_kindAt N a1 s0 = some q) : zM l yX1_kindAt cX1_kindAt 2 (some .char) ({ frames := 0, cells := 0, slots := 0, locals := 0 }) D cA ad (AccW cA h0 s0) sz [.ref (h0 0), .int a1] (some (.int q)) (AccW cA h0 s0) := by
  generalize erm : ({ frames := 0, cells := 0, slots := 0, locals := 0 } : Room) = rm
  refine zMet (by decide) (Nat.le_of_ble_eq_true rfl) ?_
  intro p e s m below meth c hx hb hr hlocks hml hts hown hin hK hP A eA hD hS hA hsz hN hE ls hl
  have hl : lv_has ls 2 [(0, .ref (h0 0)), (1, .int a1)] := hl
  clear eA
  rw [fX1_kindAt] at h
  refine lv_aload_n hx hb dX1_kindAt_0 rfl (lv_at hl 0 rfl) ?_
  refine va_get (D := D) (ci := 2) (v := .ref (h0 1)) (C := RX1) (T := TX1) (N := 5) hx hb hts iX1 hown hK hP 0 rfl rfl 0 (by decide) (hts _ qfl_X1_9) (fun _ h9 => h9) rfl dX1_kindAt_1 ?_
  refine lv_iload_n hx hb dX1_kindAt_4 rfl (lv_at hl 1 rfl) ?_
  obtain ⟨k1, hk1, h⟩ := x_rd h
  refine xCald hx hb hK hP 1 1 rfl rfl hk1 dX1_kindAt_5 ?_
  obtain ⟨z2, h⟩ := x_nz h
  have h := Option.some.inj h
  subst h
  exact xZret hx hb hr hlocks (xnar_n z2) hP hK hD hS dX1_kindAt_6
def fX1_parentAt (N : Nat) (a1 : Int32) (s0 : AccS) : Option (Int32) :=
  xrd 12 a1 fun k1 =>
  some (s0.2.1 k1)
set_option maxRecDepth 100000 in
set_option maxHeartbeats 4000000 in
theorem kX1_parentAt (l : Launch) (D : va_G) (cA : Nat → ClassId) (ad : Nat → Nat) (h0 : Nat → Nat) (sz N : Nat) (a1 : Int32) (s0 : AccS) (q : Int32) (h : fX1_parentAt N a1 s0 = some q) : zM l yX1_parentAt cX1_parentAt 2 (some .int) ({ frames := 0, cells := 0, slots := 0, locals := 0 }) D cA ad (AccW cA h0 s0) sz [.ref (h0 0), .int a1] (some (.int q)) (AccW cA h0 s0) := by
  generalize erm : ({ frames := 0, cells := 0, slots := 0, locals := 0 } : Room) = rm
  refine zMet (by decide) (Nat.le_of_ble_eq_true rfl) ?_
  intro p e s m below meth c hx hb hr hlocks hml hts hown hin hK hP A eA hD hS hA hsz hN hE ls hl
  have hl : lv_has ls 2 [(0, .ref (h0 0)), (1, .int a1)] := hl
  clear eA
  rw [fX1_parentAt] at h
  refine lv_aload_n hx hb dX1_parentAt_0 rfl (lv_at hl 0 rfl) ?_
  refine va_get (D := D) (ci := 2) (v := .ref (h0 2)) (C := RX1) (T := TX1) (N := 5) hx hb hts iX1 hown hK hP 0 rfl rfl 1 (by decide) (hts _ qfl_X1_15) (fun _ h9 => h9) rfl dX1_parentAt_1 ?_
  refine lv_iload_n hx hb dX1_parentAt_4 rfl (lv_at hl 1 rfl) ?_
  obtain ⟨k1, hk1, h⟩ := x_rd h
  refine xIald hx hb hK hP 2 0 rfl rfl hk1 dX1_parentAt_5 ?_
  have h := Option.some.inj h
  subst h
  exact xIret hx hb hr hlocks hP hK hD hS dX1_parentAt_6
def fX1_debitsAt (N : Nat) (a1 : Int32) (s0 : AccS) : Option (Int64) :=
  xrd 12 a1 fun k1 =>
  some (s0.2.2.1 k1)
set_option maxRecDepth 100000 in
set_option maxHeartbeats 4000000 in
theorem kX1_debitsAt (l : Launch) (D : va_G) (cA : Nat → ClassId) (ad : Nat → Nat) (h0 : Nat → Nat) (sz N : Nat) (a1 : Int32) (s0 : AccS) (q : Int64) (h : fX1_debitsAt N a1 s0 = some q) : zM l yX1_debitsAt cX1_debitsAt 2 (some .long) ({ frames := 0, cells := 0, slots := 0, locals := 0 }) D cA ad (AccW cA h0 s0) sz [.ref (h0 0), .int a1] (some (.long q)) (AccW cA h0 s0) := by
  generalize erm : ({ frames := 0, cells := 0, slots := 0, locals := 0 } : Room) = rm
  refine zMet (by decide) (Nat.le_of_ble_eq_true rfl) ?_
  intro p e s m below meth c hx hb hr hlocks hml hts hown hin hK hP A eA hD hS hA hsz hN hE ls hl
  have hl : lv_has ls 2 [(0, .ref (h0 0)), (1, .int a1)] := hl
  clear eA
  rw [fX1_debitsAt] at h
  refine lv_aload_n hx hb dX1_debitsAt_0 rfl (lv_at hl 0 rfl) ?_
  refine va_get (D := D) (ci := 2) (v := .ref (h0 3)) (C := RX1) (T := TX1) (N := 5) hx hb hts iX1 hown hK hP 0 rfl rfl 2 (by decide) (hts _ qfl_X1_19) (fun _ h9 => h9) rfl dX1_debitsAt_1 ?_
  refine lv_iload_n hx hb dX1_debitsAt_4 rfl (lv_at hl 1 rfl) ?_
  obtain ⟨k1, hk1, h⟩ := x_rd h
  refine xLald hx hb hK hP 3 2 rfl rfl hk1 dX1_debitsAt_5 ?_
  have h := Option.some.inj h
  subst h
  exact xLret hx hb hr hlocks hP hK hD hS dX1_debitsAt_6
def fX1_creditsAt (N : Nat) (a1 : Int32) (s0 : AccS) : Option (Int64) :=
  xrd 12 a1 fun k1 =>
  some (s0.2.2.2.1 k1)
set_option maxRecDepth 100000 in
set_option maxHeartbeats 4000000 in
theorem kX1_creditsAt (l : Launch) (D : va_G) (cA : Nat → ClassId) (ad : Nat → Nat) (h0 : Nat → Nat) (sz N : Nat) (a1 : Int32) (s0 : AccS) (q : Int64) (h : fX1_creditsAt N a1 s0 = some q) : zM l yX1_creditsAt cX1_creditsAt 2 (some .long) ({ frames := 0, cells := 0, slots := 0, locals := 0 }) D cA ad (AccW cA h0 s0) sz [.ref (h0 0), .int a1] (some (.long q)) (AccW cA h0 s0) := by
  generalize erm : ({ frames := 0, cells := 0, slots := 0, locals := 0 } : Room) = rm
  refine zMet (by decide) (Nat.le_of_ble_eq_true rfl) ?_
  intro p e s m below meth c hx hb hr hlocks hml hts hown hin hK hP A eA hD hS hA hsz hN hE ls hl
  have hl : lv_has ls 2 [(0, .ref (h0 0)), (1, .int a1)] := hl
  clear eA
  rw [fX1_creditsAt] at h
  refine lv_aload_n hx hb dX1_creditsAt_0 rfl (lv_at hl 0 rfl) ?_
  refine va_get (D := D) (ci := 2) (v := .ref (h0 4)) (C := RX1) (T := TX1) (N := 5) hx hb hts iX1 hown hK hP 0 rfl rfl 3 (by decide) (hts _ qfl_X1_23) (fun _ h9 => h9) rfl dX1_creditsAt_1 ?_
  refine lv_iload_n hx hb dX1_creditsAt_4 rfl (lv_at hl 1 rfl) ?_
  obtain ⟨k1, hk1, h⟩ := x_rd h
  refine xLald hx hb hK hP 4 2 rfl rfl hk1 dX1_creditsAt_5 ?_
  have h := Option.some.inj h
  subst h
  exact xLret hx hb hr hlocks hP hK hD hS dX1_creditsAt_6
def fX1_balanceAt (N : Nat) (a1 : Int32) (s0 : AccS) : Option (Int64) :=
  xrd 12 a1 fun k1 =>
  xrd 12 a1 fun k2 =>
  xlet ((s0.2.2.1 k1) - (s0.2.2.2.1 k2)) fun x3 =>
  xrd 12 a1 fun k4 =>
  xjoin (fun (t0_5 : Int64) =>
      some t0_5
    ) fun J42 =>
  xjoin (fun (v2_6 : Int64) =>
      J42 v2_6
    ) fun J36 =>
  if (s0.1 k4) = 97 then
    J36 x3
  else
    xrd 12 a1 fun k8 =>
    if (s0.1 k8) = 101 then
      J36 x3
    else
      J42 (-x3)
set_option maxRecDepth 100000 in
set_option maxHeartbeats 4000000 in
theorem kX1_balanceAt (l : Launch) (D : va_G) (cA : Nat → ClassId) (ad : Nat → Nat) (h0 : Nat → Nat) (sz N : Nat) (a1 : Int32) (s0 : AccS) (q : Int64) (h : fX1_balanceAt N a1 s0 = some q) : zM l yX1_balanceAt cX1_balanceAt 4 (some .long) ({ frames := 0, cells := 0, slots := 0, locals := 0 }) D cA ad (AccW cA h0 s0) sz [.ref (h0 0), .int a1] (some (.long q)) (AccW cA h0 s0) := by
  generalize erm : ({ frames := 0, cells := 0, slots := 0, locals := 0 } : Room) = rm
  refine zMet (by decide) (Nat.le_of_ble_eq_true rfl) ?_
  intro p e s m below meth c hx hb hr hlocks hml hts hown hin hK hP A eA hD hS hA hsz hN hE ls hl
  have hl : lv_has ls 4 [(0, .ref (h0 0)), (1, .int a1)] := hl
  clear eA
  rw [fX1_balanceAt] at h
  refine lv_aload_n hx hb dX1_balanceAt_0 rfl (lv_at hl 0 rfl) ?_
  refine va_get (D := D) (ci := 2) (v := .ref (h0 3)) (C := RX1) (T := TX1) (N := 5) hx hb hts iX1 hown hK hP 0 rfl rfl 2 (by decide) (hts _ qfl_X1_19) (fun _ h9 => h9) rfl dX1_balanceAt_1 ?_
  refine lv_iload_n hx hb dX1_balanceAt_4 rfl (lv_at hl 1 rfl) ?_
  obtain ⟨k1, hk1, h⟩ := x_rd h
  refine xLald hx hb hK hP 3 2 rfl rfl hk1 dX1_balanceAt_5 ?_
  refine lv_aload_n hx hb dX1_balanceAt_6 rfl (lv_at hl 0 rfl) ?_
  refine va_get (D := D) (ci := 2) (v := .ref (h0 4)) (C := RX1) (T := TX1) (N := 5) hx hb hts iX1 hown hK hP 0 rfl rfl 3 (by decide) (hts _ qfl_X1_23) (fun _ h9 => h9) rfl dX1_balanceAt_7 ?_
  refine lv_iload_n hx hb dX1_balanceAt_10 rfl (lv_at hl 1 rfl) ?_
  obtain ⟨k2, hk2, h⟩ := x_rd h
  refine xLald hx hb hK hP 4 2 rfl rfl hk2 dX1_balanceAt_11 ?_
  refine lv_lsub hx hb dX1_balanceAt_12 ?_
  refine lv_topl (fun x3 ex3 => ?_)
  have h := x_let h ex3
  refine lv_lstore_n (lv' := [(2, .long x3), (0, .ref (h0 0)), (1, .int a1)]) hx hb dX1_balanceAt_13 rfl hl (by decide) rfl (fun ls hl => ?_)
  refine lv_aload_n hx hb dX1_balanceAt_14 rfl (lv_at hl 1 rfl) ?_
  refine va_get (D := D) (ci := 2) (v := .ref (h0 1)) (C := RX1) (T := TX1) (N := 5) hx hb hts iX1 hown hK hP 0 rfl rfl 0 (by decide) (hts _ qfl_X1_9) (fun _ h9 => h9) rfl dX1_balanceAt_15 ?_
  refine lv_iload_n hx hb dX1_balanceAt_18 rfl (lv_at hl 2 rfl) ?_
  obtain ⟨k4, hk4, h⟩ := x_rd h
  refine xCald hx hb hK hP 1 1 rfl rfl hk4 dX1_balanceAt_19 ?_
  refine lv_bipush (v := 97) hx hb dX1_balanceAt_20 (by decide) ?_
  obtain ⟨J42, eJ42, h⟩ := x_join h
  have hJ_J42 : ∀ (t0_5 : Int64) (H : Heap) (locs : List Loc), va_P D vwCl (AccW cA h0 s0) H → va_D A (AccW cA h0 s0) → va_S A s.heap H locs → ∀ ls : Array Slot, lv_has ls 4 [] → J42 t0_5 = some q → W p l e rm s m ([.ref (h0 0), .int a1] : List Value).toArray below meth c H locs 0 0 (MQ below (xQ D cA A (AccW cA h0 s0) (some (.long q))) ([.ref (h0 0), .int a1] : List Value).toArray s 0 0 A) (F0 m 42 ls [.long t0_5]) := by
    clear h hP hD hS hl
    intro t0_5 H locs hP hD hS ls hl h
    rw [eJ42] at h
    have h := Option.some.inj h
    subst h
    exact xLret hx hb hr hlocks hP hK hD hS dX1_balanceAt_42
  obtain ⟨J36, eJ36, h⟩ := x_join h
  have hJ_J36 : ∀ (v2_6 : Int64) (H : Heap) (locs : List Loc), va_P D vwCl (AccW cA h0 s0) H → va_D A (AccW cA h0 s0) → va_S A s.heap H locs → ∀ ls : Array Slot, lv_has ls 4 [(2, .long v2_6)] → J36 v2_6 = some q → W p l e rm s m ([.ref (h0 0), .int a1] : List Value).toArray below meth c H locs 0 0 (MQ below (xQ D cA A (AccW cA h0 s0) (some (.long q))) ([.ref (h0 0), .int a1] : List Value).toArray s 0 0 A) (F0 m 36 ls []) := by
    clear h hP hD hS hl
    intro v2_6 H locs hP hD hS ls hl h
    rw [eJ36] at h
    refine lv_lload_n hx hb dX1_balanceAt_36 rfl (lv_at hl 0 rfl) ?_
    refine lv_goto (tgt := 42) hx hb dX1_balanceAt_37 (by decide) ?_
    exact hJ_J42 v2_6 _ _ hP hD hS _ (lv_sub hl [] rfl) h
  refine lv_icmp_eq (tgt := 36) hx hb dX1_balanceAt_22 (by decide) (fun c7 => ?_) (fun c7 => ?_)
  · have h := x_t h c7
    exact hJ_J36 x3 _ _ hP hD hS _ (lv_sub hl [0] rfl) h
  · have h := x_f h c7
    refine lv_aload_n hx hb dX1_balanceAt_25 rfl (lv_at hl 1 rfl) ?_
    refine va_get (D := D) (ci := 2) (v := .ref (h0 1)) (C := RX1) (T := TX1) (N := 5) hx hb hts iX1 hown hK hP 0 rfl rfl 0 (by decide) (hts _ qfl_X1_9) (fun _ h9 => h9) rfl dX1_balanceAt_26 ?_
    refine lv_iload_n hx hb dX1_balanceAt_29 rfl (lv_at hl 2 rfl) ?_
    obtain ⟨k8, hk8, h⟩ := x_rd h
    refine xCald hx hb hK hP 1 1 rfl rfl hk8 dX1_balanceAt_30 ?_
    refine lv_bipush (v := 101) hx hb dX1_balanceAt_31 (by decide) ?_
    refine lv_icmp_ne (tgt := 40) hx hb dX1_balanceAt_33 (by decide) (fun c9 => ?_) (fun c9 => ?_)
    · have h := x_f h c9
      refine lv_lload_n hx hb dX1_balanceAt_40 rfl (lv_at hl 0 rfl) ?_
      refine lv_lneg hx hb dX1_balanceAt_41 ?_
      exact hJ_J42 (-x3) _ _ hP hD hS _ (lv_sub hl [] rfl) h
    · have h := x_t h c9
      exact hJ_J36 x3 _ _ hP hD hS _ (lv_sub hl [0] rfl) h
def fX1_isOfProfit (N : Nat) (a1 : Int32) (s0 : AccS) : Option (Int32) :=
  xrd 12 a1 fun k1 =>
  xjoin (fun (t0_2 : Int32) =>
      xnz (xnar .boolean t0_2) <|
      some t0_2
    ) fun J27 =>
  xjoin (fun (u_4 : Unit) =>
      J27 1
    ) fun J22 =>
  if (s0.1 k1) = 105 then
    J22 ()
  else
    xrd 12 a1 fun k6 =>
    if (s0.1 k6) = 101 then
      J22 ()
    else
      J27 0
set_option maxRecDepth 100000 in
set_option maxHeartbeats 4000000 in
theorem kX1_isOfProfit (l : Launch) (D : va_G) (cA : Nat → ClassId) (ad : Nat → Nat) (h0 : Nat → Nat) (sz N : Nat) (a1 : Int32) (s0 : AccS) (q : Int32) (h : fX1_isOfProfit N a1 s0 = some q) : zM l yX1_isOfProfit cX1_isOfProfit 2 (some .boolean) ({ frames := 0, cells := 0, slots := 0, locals := 0 }) D cA ad (AccW cA h0 s0) sz [.ref (h0 0), .int a1] (some (.int q)) (AccW cA h0 s0) := by
  generalize erm : ({ frames := 0, cells := 0, slots := 0, locals := 0 } : Room) = rm
  refine zMet (by decide) (Nat.le_of_ble_eq_true rfl) ?_
  intro p e s m below meth c hx hb hr hlocks hml hts hown hin hK hP A eA hD hS hA hsz hN hE ls hl
  have hl : lv_has ls 2 [(0, .ref (h0 0)), (1, .int a1)] := hl
  clear eA
  rw [fX1_isOfProfit] at h
  refine lv_aload_n hx hb dX1_isOfProfit_0 rfl (lv_at hl 0 rfl) ?_
  refine va_get (D := D) (ci := 2) (v := .ref (h0 1)) (C := RX1) (T := TX1) (N := 5) hx hb hts iX1 hown hK hP 0 rfl rfl 0 (by decide) (hts _ qfl_X1_9) (fun _ h9 => h9) rfl dX1_isOfProfit_1 ?_
  refine lv_iload_n hx hb dX1_isOfProfit_4 rfl (lv_at hl 1 rfl) ?_
  obtain ⟨k1, hk1, h⟩ := x_rd h
  refine xCald hx hb hK hP 1 1 rfl rfl hk1 dX1_isOfProfit_5 ?_
  refine lv_bipush (v := 105) hx hb dX1_isOfProfit_6 (by decide) ?_
  obtain ⟨J27, eJ27, h⟩ := x_join h
  have hJ_J27 : ∀ (t0_2 : Int32) (H : Heap) (locs : List Loc), va_P D vwCl (AccW cA h0 s0) H → va_D A (AccW cA h0 s0) → va_S A s.heap H locs → ∀ ls : Array Slot, lv_has ls 2 [] → J27 t0_2 = some q → W p l e rm s m ([.ref (h0 0), .int a1] : List Value).toArray below meth c H locs 0 0 (MQ below (xQ D cA A (AccW cA h0 s0) (some (.int q))) ([.ref (h0 0), .int a1] : List Value).toArray s 0 0 A) (F0 m 27 ls [.int t0_2]) := by
    clear h hP hD hS hl
    intro t0_2 H locs hP hD hS ls hl h
    rw [eJ27] at h
    obtain ⟨z3, h⟩ := x_nz h
    have h := Option.some.inj h
    subst h
    exact xZret hx hb hr hlocks (xnar_n z3) hP hK hD hS dX1_isOfProfit_27
  obtain ⟨J22, eJ22, h⟩ := x_join h
  have hJ_J22 : ∀ (u_4 : Unit) (H : Heap) (locs : List Loc), va_P D vwCl (AccW cA h0 s0) H → va_D A (AccW cA h0 s0) → va_S A s.heap H locs → ∀ ls : Array Slot, lv_has ls 2 [] → J22 u_4 = some q → W p l e rm s m ([.ref (h0 0), .int a1] : List Value).toArray below meth c H locs 0 0 (MQ below (xQ D cA A (AccW cA h0 s0) (some (.int q))) ([.ref (h0 0), .int a1] : List Value).toArray s 0 0 A) (F0 m 22 ls []) := by
    clear h hP hD hS hl
    intro u_4 H locs hP hD hS ls hl h
    rw [eJ22] at h
    refine lv_iconst (v := 1) hx hb dX1_isOfProfit_22 (by decide) ?_
    refine lv_goto (tgt := 27) hx hb dX1_isOfProfit_23 (by decide) ?_
    exact hJ_J27 1 _ _ hP hD hS _ (lv_sub hl [] rfl) h
  refine lv_icmp_eq (tgt := 22) hx hb dX1_isOfProfit_8 (by decide) (fun c5 => ?_) (fun c5 => ?_)
  · have h := x_t h c5
    exact hJ_J22 () _ _ hP hD hS _ (lv_sub hl [] rfl) h
  · have h := x_f h c5
    refine lv_aload_n hx hb dX1_isOfProfit_11 rfl (lv_at hl 0 rfl) ?_
    refine va_get (D := D) (ci := 2) (v := .ref (h0 1)) (C := RX1) (T := TX1) (N := 5) hx hb hts iX1 hown hK hP 0 rfl rfl 0 (by decide) (hts _ qfl_X1_9) (fun _ h9 => h9) rfl dX1_isOfProfit_12 ?_
    refine lv_iload_n hx hb dX1_isOfProfit_15 rfl (lv_at hl 1 rfl) ?_
    obtain ⟨k6, hk6, h⟩ := x_rd h
    refine xCald hx hb hK hP 1 1 rfl rfl hk6 dX1_isOfProfit_16 ?_
    refine lv_bipush (v := 101) hx hb dX1_isOfProfit_17 (by decide) ?_
    refine lv_icmp_ne (tgt := 26) hx hb dX1_isOfProfit_19 (by decide) (fun c7 => ?_) (fun c7 => ?_)
    · have h := x_f h c7
      refine lv_iconst (v := 0) hx hb dX1_isOfProfit_26 (by decide) ?_
      exact hJ_J27 0 _ _ hP hD hS _ (lv_sub hl [] rfl) h
    · have h := x_t h c7
      exact hJ_J22 () _ _ hP hD hS _ (lv_sub hl [] rfl) h
def fX1_allDebits_L4 (N : Nat) (s0 : AccS) (K27 : Int64 → Option (Int64)) : Nat → Int64 → Int32 → Option (Int64)
  | 0, _, _ => none
  | n + 1, v1_2, v3_2 =>
    if s0.2.2.2.2 ≤ v3_2 then
      K27 v1_2
    else
      xrd 12 v3_2 fun k4 =>
      xlet (v1_2 + (s0.2.2.1 k4)) fun x5 =>
      xlet (v3_2 + (1)) fun x6 =>
      fX1_allDebits_L4 N s0 K27 n x5 x6
def fX1_allDebits (N : Nat)  (s0 : AccS) : Option (Int64) :=
  xjoin (fun (v1_1 : Int64) =>
      some v1_1
    ) fun K27 =>
  fX1_allDebits_L4 N s0 K27 N 0 0
set_option maxRecDepth 100000 in
set_option maxHeartbeats 4000000 in
theorem kX1_allDebits (l : Launch) (D : va_G) (cA : Nat → ClassId) (ad : Nat → Nat) (h0 : Nat → Nat) (sz N : Nat)  (s0 : AccS) (q : Int64) (h : fX1_allDebits N s0 = some q) : zM l yX1_allDebits cX1_allDebits 4 (some .long) ({ frames := 0, cells := 0, slots := 0, locals := 0 }) D cA ad (AccW cA h0 s0) sz [.ref (h0 0)] (some (.long q)) (AccW cA h0 s0) := by
  generalize erm : ({ frames := 0, cells := 0, slots := 0, locals := 0 } : Room) = rm
  refine zMet (by decide) (Nat.le_of_ble_eq_true rfl) ?_
  intro p e s m below meth c hx hb hr hlocks hml hts hown hin hK hP A eA hD hS hA hsz hN hE ls hl
  have hl : lv_has ls 4 [(0, .ref (h0 0))] := hl
  clear eA
  rw [fX1_allDebits] at h
  refine lv_lconst (v := 0) hx hb dX1_allDebits_0 (by decide) ?_
  refine lv_lstore_n (lv' := [(1, .long 0), (0, .ref (h0 0))]) hx hb dX1_allDebits_1 rfl hl (by decide) rfl (fun ls hl => ?_)
  refine lv_iconst (v := 0) hx hb dX1_allDebits_2 (by decide) ?_
  refine lv_istore_n (lv' := [(3, .int 0), (1, .long 0), (0, .ref (h0 0))]) hx hb dX1_allDebits_3 rfl hl (by decide) rfl (fun ls hl => ?_)
  obtain ⟨K27, eK27, h⟩ := x_join h
  have hJ_K27 : ∀ (v1_1 : Int64) (H : Heap) (locs : List Loc), va_P D vwCl (AccW cA h0 s0) H → va_D A (AccW cA h0 s0) → va_S A s.heap H locs → ∀ ls : Array Slot, lv_has ls 4 [(1, .long v1_1)] → K27 v1_1 = some q → W p l e rm s m ([.ref (h0 0)] : List Value).toArray below meth c H locs 0 0 (MQ below (xQ D cA A (AccW cA h0 s0) (some (.long q))) ([.ref (h0 0)] : List Value).toArray s 0 0 A) (F0 m 27 ls []) := by
    clear h hP hD hS hl
    intro v1_1 H locs hP hD hS ls hl h
    rw [eK27] at h
    refine lv_lload_n hx hb dX1_allDebits_27 rfl (lv_at hl 0 rfl) ?_
    have h := Option.some.inj h
    subst h
    exact xLret hx hb hr hlocks hP hK hD hS dX1_allDebits_28
  have hL4 : ∀ (n : Nat) (v1_2 : Int64) (v3_2 : Int32) (H : Heap) (locs : List Loc), va_P D vwCl (AccW cA h0 s0) H → va_D A (AccW cA h0 s0) → va_S A s.heap H locs → ∀ ls : Array Slot, lv_has ls 4 [(0, .ref (h0 0)), (1, .long v1_2), (3, .int v3_2)] → fX1_allDebits_L4 N s0 K27 n v1_2 v3_2 = some q → W p l e rm s m ([.ref (h0 0)] : List Value).toArray below meth c H locs 0 0 (MQ below (xQ D cA A (AccW cA h0 s0) (some (.long q))) ([.ref (h0 0)] : List Value).toArray s 0 0 A) (F0 m 4 ls []) := by
    clear h hP hD hS hl
    intro n
    induction n with
    | zero => intro v1_2 v3_2 H locs hP hD hS ls hl h; rw [fX1_allDebits_L4] at h; cases h
    | succ n ih =>
      intro v1_2 v3_2 H locs hP hD hS ls hl h
      rw [fX1_allDebits_L4] at h
      refine lv_iload_n hx hb dX1_allDebits_4 rfl (lv_at hl 2 rfl) ?_
      refine lv_aload_n hx hb dX1_allDebits_5 rfl (lv_at hl 0 rfl) ?_
      refine va_get (D := D) (ci := 2) (v := .int s0.2.2.2.2) (C := RX1) (T := TX1) (N := 5) hx hb hts iX1 hown hK hP 0 rfl rfl 4 (by decide) (hts _ qfl_X1_34) (fun _ h9 => h9) rfl dX1_allDebits_6 ?_
      refine lv_icmp_ge (tgt := 27) hx hb dX1_allDebits_9 (by decide) (fun c3 => ?_) (fun c3 => ?_)
      · have h := x_t h c3
        exact hJ_K27 v1_2 _ _ hP hD hS _ (lv_sub hl [1] rfl) h
      · have h := x_f h c3
        refine lv_lload_n hx hb dX1_allDebits_12 rfl (lv_at hl 1 rfl) ?_
        refine lv_aload_n hx hb dX1_allDebits_13 rfl (lv_at hl 0 rfl) ?_
        refine va_get (D := D) (ci := 2) (v := .ref (h0 3)) (C := RX1) (T := TX1) (N := 5) hx hb hts iX1 hown hK hP 0 rfl rfl 2 (by decide) (hts _ qfl_X1_19) (fun _ h9 => h9) rfl dX1_allDebits_14 ?_
        refine lv_iload_n hx hb dX1_allDebits_17 rfl (lv_at hl 2 rfl) ?_
        obtain ⟨k4, hk4, h⟩ := x_rd h
        refine xLald hx hb hK hP 3 2 rfl rfl hk4 dX1_allDebits_18 ?_
        refine lv_ladd hx hb dX1_allDebits_19 ?_
        refine lv_topl (fun x5 ex5 => ?_)
        have h := x_let h ex5
        refine lv_lstore_n (lv' := [(1, .long x5), (0, .ref (h0 0)), (3, .int v3_2)]) hx hb dX1_allDebits_20 rfl hl (by decide) rfl (fun ls hl => ?_)
        obtain ⟨x6, ex6⟩ : ∃ y : Int32, y = v3_2 + (1) := ⟨_, rfl⟩
        have h := x_let h ex6
        refine lv_iinc (v := x6) (lv' := [(3, .int x6), (1, .long x5), (0, .ref (h0 0))]) hx hb dX1_allDebits_21 hl (k := 2) rfl (by rw [ex6]; rfl) (by decide) rfl (fun ls hl => ?_)
        refine lv_goto (tgt := 4) hx hb dX1_allDebits_24 (by decide) ?_
        exact ih x5 x6 _ _ hP hD hS _ (lv_sub hl [2, 1, 0] rfl) h
  exact hL4 N 0 0 _ _ hP hD hS _ (lv_sub hl [2, 1, 0] rfl) h
def fX1_allCredits_L4 (N : Nat) (s0 : AccS) (K27 : Int64 → Option (Int64)) : Nat → Int64 → Int32 → Option (Int64)
  | 0, _, _ => none
  | n + 1, v1_2, v3_2 =>
    if s0.2.2.2.2 ≤ v3_2 then
      K27 v1_2
    else
      xrd 12 v3_2 fun k4 =>
      xlet (v1_2 + (s0.2.2.2.1 k4)) fun x5 =>
      xlet (v3_2 + (1)) fun x6 =>
      fX1_allCredits_L4 N s0 K27 n x5 x6
def fX1_allCredits (N : Nat)  (s0 : AccS) : Option (Int64) :=
  xjoin (fun (v1_1 : Int64) =>
      some v1_1
    ) fun K27 =>
  fX1_allCredits_L4 N s0 K27 N 0 0
set_option maxRecDepth 100000 in
set_option maxHeartbeats 4000000 in
theorem kX1_allCredits (l : Launch) (D : va_G) (cA : Nat → ClassId) (ad : Nat → Nat) (h0 : Nat → Nat) (sz N : Nat)  (s0 : AccS) (q : Int64) (h : fX1_allCredits N s0 = some q) : zM l yX1_allCredits cX1_allCredits 4 (some .long) ({ frames := 0, cells := 0, slots := 0, locals := 0 }) D cA ad (AccW cA h0 s0) sz [.ref (h0 0)] (some (.long q)) (AccW cA h0 s0) := by
  generalize erm : ({ frames := 0, cells := 0, slots := 0, locals := 0 } : Room) = rm
  refine zMet (by decide) (Nat.le_of_ble_eq_true rfl) ?_
  intro p e s m below meth c hx hb hr hlocks hml hts hown hin hK hP A eA hD hS hA hsz hN hE ls hl
  have hl : lv_has ls 4 [(0, .ref (h0 0))] := hl
  clear eA
  rw [fX1_allCredits] at h
  refine lv_lconst (v := 0) hx hb dX1_allCredits_0 (by decide) ?_
  refine lv_lstore_n (lv' := [(1, .long 0), (0, .ref (h0 0))]) hx hb dX1_allCredits_1 rfl hl (by decide) rfl (fun ls hl => ?_)
  refine lv_iconst (v := 0) hx hb dX1_allCredits_2 (by decide) ?_
  refine lv_istore_n (lv' := [(3, .int 0), (1, .long 0), (0, .ref (h0 0))]) hx hb dX1_allCredits_3 rfl hl (by decide) rfl (fun ls hl => ?_)
  obtain ⟨K27, eK27, h⟩ := x_join h
  have hJ_K27 : ∀ (v1_1 : Int64) (H : Heap) (locs : List Loc), va_P D vwCl (AccW cA h0 s0) H → va_D A (AccW cA h0 s0) → va_S A s.heap H locs → ∀ ls : Array Slot, lv_has ls 4 [(1, .long v1_1)] → K27 v1_1 = some q → W p l e rm s m ([.ref (h0 0)] : List Value).toArray below meth c H locs 0 0 (MQ below (xQ D cA A (AccW cA h0 s0) (some (.long q))) ([.ref (h0 0)] : List Value).toArray s 0 0 A) (F0 m 27 ls []) := by
    clear h hP hD hS hl
    intro v1_1 H locs hP hD hS ls hl h
    rw [eK27] at h
    refine lv_lload_n hx hb dX1_allCredits_27 rfl (lv_at hl 0 rfl) ?_
    have h := Option.some.inj h
    subst h
    exact xLret hx hb hr hlocks hP hK hD hS dX1_allCredits_28
  have hL4 : ∀ (n : Nat) (v1_2 : Int64) (v3_2 : Int32) (H : Heap) (locs : List Loc), va_P D vwCl (AccW cA h0 s0) H → va_D A (AccW cA h0 s0) → va_S A s.heap H locs → ∀ ls : Array Slot, lv_has ls 4 [(0, .ref (h0 0)), (1, .long v1_2), (3, .int v3_2)] → fX1_allCredits_L4 N s0 K27 n v1_2 v3_2 = some q → W p l e rm s m ([.ref (h0 0)] : List Value).toArray below meth c H locs 0 0 (MQ below (xQ D cA A (AccW cA h0 s0) (some (.long q))) ([.ref (h0 0)] : List Value).toArray s 0 0 A) (F0 m 4 ls []) := by
    clear h hP hD hS hl
    intro n
    induction n with
    | zero => intro v1_2 v3_2 H locs hP hD hS ls hl h; rw [fX1_allCredits_L4] at h; cases h
    | succ n ih =>
      intro v1_2 v3_2 H locs hP hD hS ls hl h
      rw [fX1_allCredits_L4] at h
      refine lv_iload_n hx hb dX1_allCredits_4 rfl (lv_at hl 2 rfl) ?_
      refine lv_aload_n hx hb dX1_allCredits_5 rfl (lv_at hl 0 rfl) ?_
      refine va_get (D := D) (ci := 2) (v := .int s0.2.2.2.2) (C := RX1) (T := TX1) (N := 5) hx hb hts iX1 hown hK hP 0 rfl rfl 4 (by decide) (hts _ qfl_X1_34) (fun _ h9 => h9) rfl dX1_allCredits_6 ?_
      refine lv_icmp_ge (tgt := 27) hx hb dX1_allCredits_9 (by decide) (fun c3 => ?_) (fun c3 => ?_)
      · have h := x_t h c3
        exact hJ_K27 v1_2 _ _ hP hD hS _ (lv_sub hl [1] rfl) h
      · have h := x_f h c3
        refine lv_lload_n hx hb dX1_allCredits_12 rfl (lv_at hl 1 rfl) ?_
        refine lv_aload_n hx hb dX1_allCredits_13 rfl (lv_at hl 0 rfl) ?_
        refine va_get (D := D) (ci := 2) (v := .ref (h0 4)) (C := RX1) (T := TX1) (N := 5) hx hb hts iX1 hown hK hP 0 rfl rfl 3 (by decide) (hts _ qfl_X1_23) (fun _ h9 => h9) rfl dX1_allCredits_14 ?_
        refine lv_iload_n hx hb dX1_allCredits_17 rfl (lv_at hl 2 rfl) ?_
        obtain ⟨k4, hk4, h⟩ := x_rd h
        refine xLald hx hb hK hP 4 2 rfl rfl hk4 dX1_allCredits_18 ?_
        refine lv_ladd hx hb dX1_allCredits_19 ?_
        refine lv_topl (fun x5 ex5 => ?_)
        have h := x_let h ex5
        refine lv_lstore_n (lv' := [(1, .long x5), (0, .ref (h0 0)), (3, .int v3_2)]) hx hb dX1_allCredits_20 rfl hl (by decide) rfl (fun ls hl => ?_)
        obtain ⟨x6, ex6⟩ : ∃ y : Int32, y = v3_2 + (1) := ⟨_, rfl⟩
        have h := x_let h ex6
        refine lv_iinc (v := x6) (lv' := [(3, .int x6), (1, .long x5), (0, .ref (h0 0))]) hx hb dX1_allCredits_21 hl (k := 2) rfl (by rw [ex6]; rfl) (by decide) rfl (fun ls hl => ?_)
        refine lv_goto (tgt := 4) hx hb dX1_allCredits_24 (by decide) ?_
        exact ih x5 x6 _ _ hP hD hS _ (lv_sub hl [2, 1, 0] rfl) h
  exact hL4 N 0 0 _ _ hP hD hS _ (lv_sub hl [2, 1, 0] rfl) h
def fX1_gain_L4 (N : Nat) (s0 : AccS) (K42 : Int64 → Option (Int64)) : Nat → Int64 → Int32 → Option (Int64)
  | 0, _, _ => none
  | n + 1, v1_2, v3_2 =>
    if s0.2.2.2.2 ≤ v3_2 then
      K42 v1_2
    else
      xcall (fX1_isOfProfit N v3_2 s0) fun q4 =>
      xjoin (fun (v1_5 : Int64) (v3_5 : Int32) =>
          xlet (v3_5 + (1)) fun x6 =>
          fX1_gain_L4 N s0 K42 n v1_5 x6
        ) fun J36 =>
      if q4 = 0 then
        J36 v1_2 v3_2
      else
        xrd 12 v3_2 fun k8 =>
        xrd 12 v3_2 fun k9 =>
        xlet (v1_2 + ((s0.2.2.2.1 k8) - (s0.2.2.1 k9))) fun x10 =>
        J36 x10 v3_2
def fX1_gain (N : Nat)  (s0 : AccS) : Option (Int64) :=
  xjoin (fun (v1_1 : Int64) =>
      some v1_1
    ) fun K42 =>
  fX1_gain_L4 N s0 K42 N 0 0
set_option maxRecDepth 100000 in
set_option maxHeartbeats 4000000 in
theorem kX1_gain (l : Launch) (D : va_G) (cA : Nat → ClassId) (ad : Nat → Nat) (h0 : Nat → Nat) (sz N : Nat)  (s0 : AccS) (q : Int64) (h : fX1_gain N s0 = some q) : zM l yX1_gain cX1_gain 4 (some .long) ({ frames := 1, cells := 0, slots := 0, locals := 21 }) D cA ad (AccW cA h0 s0) sz [.ref (h0 0)] (some (.long q)) (AccW cA h0 s0) := by
  generalize erm : ({ frames := 1, cells := 0, slots := 0, locals := 21 } : Room) = rm
  refine zMet (by decide) (Nat.le_of_ble_eq_true rfl) ?_
  intro p e s m below meth c hx hb hr hlocks hml hts hown hin hK hP A eA hD hS hA hsz hN hE ls hl
  have hl : lv_has ls 4 [(0, .ref (h0 0))] := hl
  clear eA
  rw [fX1_gain] at h
  refine lv_lconst (v := 0) hx hb dX1_gain_0 (by decide) ?_
  refine lv_lstore_n (lv' := [(1, .long 0), (0, .ref (h0 0))]) hx hb dX1_gain_1 rfl hl (by decide) rfl (fun ls hl => ?_)
  refine lv_iconst (v := 0) hx hb dX1_gain_2 (by decide) ?_
  refine lv_istore_n (lv' := [(3, .int 0), (1, .long 0), (0, .ref (h0 0))]) hx hb dX1_gain_3 rfl hl (by decide) rfl (fun ls hl => ?_)
  obtain ⟨K42, eK42, h⟩ := x_join h
  have hJ_K42 : ∀ (v1_1 : Int64) (H : Heap) (locs : List Loc), va_P D vwCl (AccW cA h0 s0) H → va_D A (AccW cA h0 s0) → va_S A s.heap H locs → ∀ ls : Array Slot, lv_has ls 4 [(1, .long v1_1)] → K42 v1_1 = some q → W p l e rm s m ([.ref (h0 0)] : List Value).toArray below meth c H locs 0 0 (MQ below (xQ D cA A (AccW cA h0 s0) (some (.long q))) ([.ref (h0 0)] : List Value).toArray s 0 0 A) (F0 m 42 ls []) := by
    clear h hP hD hS hl
    intro v1_1 H locs hP hD hS ls hl h
    rw [eK42] at h
    refine lv_lload_n hx hb dX1_gain_42 rfl (lv_at hl 0 rfl) ?_
    have h := Option.some.inj h
    subst h
    exact xLret hx hb hr hlocks hP hK hD hS dX1_gain_43
  have hL4 : ∀ (n : Nat) (v1_2 : Int64) (v3_2 : Int32) (H : Heap) (locs : List Loc), va_P D vwCl (AccW cA h0 s0) H → va_D A (AccW cA h0 s0) → va_S A s.heap H locs → ∀ ls : Array Slot, lv_has ls 4 [(0, .ref (h0 0)), (1, .long v1_2), (3, .int v3_2)] → fX1_gain_L4 N s0 K42 n v1_2 v3_2 = some q → W p l e rm s m ([.ref (h0 0)] : List Value).toArray below meth c H locs 0 0 (MQ below (xQ D cA A (AccW cA h0 s0) (some (.long q))) ([.ref (h0 0)] : List Value).toArray s 0 0 A) (F0 m 4 ls []) := by
    clear h hP hD hS hl
    intro n
    induction n with
    | zero => intro v1_2 v3_2 H locs hP hD hS ls hl h; rw [fX1_gain_L4] at h; cases h
    | succ n ih =>
      intro v1_2 v3_2 H locs hP hD hS ls hl h
      rw [fX1_gain_L4] at h
      refine lv_iload_n hx hb dX1_gain_4 rfl (lv_at hl 2 rfl) ?_
      refine lv_aload_n hx hb dX1_gain_5 rfl (lv_at hl 0 rfl) ?_
      refine va_get (D := D) (ci := 2) (v := .int s0.2.2.2.2) (C := RX1) (T := TX1) (N := 5) hx hb hts iX1 hown hK hP 0 rfl rfl 4 (by decide) (hts _ qfl_X1_34) (fun _ h9 => h9) rfl dX1_gain_6 ?_
      refine lv_icmp_ge (tgt := 42) hx hb dX1_gain_9 (by decide) (fun c3 => ?_) (fun c3 => ?_)
      · have h := x_t h c3
        exact hJ_K42 v1_2 _ _ hP hD hS _ (lv_sub hl [1] rfl) h
      · have h := x_f h c3
        refine lv_aload_n hx hb dX1_gain_12 rfl (lv_at hl 0 rfl) ?_
        refine lv_iload_n hx hb dX1_gain_13 rfl (lv_at hl 2 rfl) ?_
        obtain ⟨q4, c4, h⟩ := x_call h
        refine xCall (w2 := AccW cA h0 s0) (zRunV (n := 1) (As := [.int v3_2]) (rest := []) ⟨hx, hb, hml, hown, hts⟩ (kX1_isOfProfit l D cA ad h0 _ N v3_2 s0 q4 c4) qco_X1_isOfProfit qml_X1_77 qin_X1_isOfProfit qse_X1_isOfProfit qini_X1 (by decide +kernel) (by rw [← erm]; rfl) hN hE hS hA hK hP hD [0, 1, 2, 3, 4] rfl rfl (q0 := 0) rfl rfl rfl rfl rfl hl.1 rfl (lv_room (Nat.le_of_ble_eq_true rfl)) dX1_gain_14 ⟨Nat.zero_le _, Nat.zero_le _⟩) hP hD hS hA [0, 1, 2, 3, 4] [] [0, 1, 2, 3, 4] rfl (wr := []) rfl rfl rfl rfl rfl (fun H locs hP hD hS => ?_)
        obtain ⟨J36, eJ36, h⟩ := x_join h
        have hJ_J36 : ∀ (v1_5 : Int64) (v3_5 : Int32) (H : Heap) (locs : List Loc), va_P D vwCl (AccW cA h0 s0) H → va_D A (AccW cA h0 s0) → va_S A s.heap H locs → ∀ ls : Array Slot, lv_has ls 4 [(0, .ref (h0 0)), (1, .long v1_5), (3, .int v3_5)] → J36 v1_5 v3_5 = some q → W p l e rm s m ([.ref (h0 0)] : List Value).toArray below meth c H locs 0 0 (MQ below (xQ D cA A (AccW cA h0 s0) (some (.long q))) ([.ref (h0 0)] : List Value).toArray s 0 0 A) (F0 m 36 ls []) := by
          clear h hP hD hS hl
          intro v1_5 v3_5 H locs hP hD hS ls hl h
          rw [eJ36] at h
          obtain ⟨x6, ex6⟩ : ∃ y : Int32, y = v3_5 + (1) := ⟨_, rfl⟩
          have h := x_let h ex6
          refine lv_iinc (v := x6) (lv' := [(3, .int x6), (0, .ref (h0 0)), (1, .long v1_5)]) hx hb dX1_gain_36 hl (k := 2) rfl (by rw [ex6]; rfl) (by decide) rfl (fun ls hl => ?_)
          refine lv_goto (tgt := 4) hx hb dX1_gain_39 (by decide) ?_
          exact ih v1_5 x6 _ _ hP hD hS _ (lv_sub hl [1, 2, 0] rfl) h
        refine lv_if_eq (tgt := 36) hx hb dX1_gain_17 (by decide) (fun c7 => ?_) (fun c7 => ?_)
        · have h := x_t h c7
          exact hJ_J36 v1_2 v3_2 _ _ hP hD hS _ (lv_sub hl [0, 1, 2] rfl) h
        · have h := x_f h c7
          refine lv_lload_n hx hb dX1_gain_20 rfl (lv_at hl 1 rfl) ?_
          refine lv_aload_n hx hb dX1_gain_21 rfl (lv_at hl 0 rfl) ?_
          refine va_get (D := D) (ci := 2) (v := .ref (h0 4)) (C := RX1) (T := TX1) (N := 5) hx hb hts iX1 hown hK hP 0 rfl rfl 3 (by decide) (hts _ qfl_X1_23) (fun _ h9 => h9) rfl dX1_gain_22 ?_
          refine lv_iload_n hx hb dX1_gain_25 rfl (lv_at hl 2 rfl) ?_
          obtain ⟨k8, hk8, h⟩ := x_rd h
          refine xLald hx hb hK hP 4 2 rfl rfl hk8 dX1_gain_26 ?_
          refine lv_aload_n hx hb dX1_gain_27 rfl (lv_at hl 0 rfl) ?_
          refine va_get (D := D) (ci := 2) (v := .ref (h0 3)) (C := RX1) (T := TX1) (N := 5) hx hb hts iX1 hown hK hP 0 rfl rfl 2 (by decide) (hts _ qfl_X1_19) (fun _ h9 => h9) rfl dX1_gain_28 ?_
          refine lv_iload_n hx hb dX1_gain_31 rfl (lv_at hl 2 rfl) ?_
          obtain ⟨k9, hk9, h⟩ := x_rd h
          refine xLald hx hb hK hP 3 2 rfl rfl hk9 dX1_gain_32 ?_
          refine lv_lsub hx hb dX1_gain_33 ?_
          refine lv_ladd hx hb dX1_gain_34 ?_
          refine lv_topl (fun x10 ex10 => ?_)
          have h := x_let h ex10
          refine lv_lstore_n (lv' := [(1, .long x10), (0, .ref (h0 0)), (3, .int v3_2)]) hx hb dX1_gain_35 rfl hl (by decide) rfl (fun ls hl => ?_)
          exact hJ_J36 x10 v3_2 _ _ hP hD hS _ (lv_sub hl [1, 0, 2] rfl) h
  exact hL4 N 0 0 _ _ hP hD hS _ (lv_sub hl [2, 1, 0] rfl) h
def fX1_treeOf_L8 (N : Nat) (s0 : AccS) (K51 : Int32 → Option (Int32)) : Nat → Int32 → Int32 → Option (Int32)
  | 0, _, _ => none
  | n + 1, v2_4, v3_4 =>
    if s0.2.2.2.2 ≤ v3_4 then
      K51 v2_4
    else
      xrd 12 v3_4 fun k6 =>
      xjoin (fun (v2_7 : Int32) (v3_7 : Int32) =>
          xlet (v3_7 + (1)) fun x8 =>
          fX1_treeOf_L8 N s0 K51 n v2_7 x8
        ) fun J45 =>
      if (s0.2.1 k6) = (-1) then
        J45 v2_4 v3_4
      else
        xrd 12 v3_4 fun k10 =>
        xcall (fX12_isInSet N (s0.2.1 k10) v2_4) fun q11 =>
        if q11 = 0 then
          J45 v2_4 v3_4
        else
          xlet (v2_4 ||| (1 <<< (v3_4 &&& 31))) fun x13 =>
          J45 x13 v3_4
def fX1_treeOf (N : Nat) (a1 : Int32) (s0 : AccS) : Option (Int32) :=
  xlet (1 <<< (a1 &&& 31)) fun x1 =>
  xlet (a1 + 1) fun x2 =>
  xjoin (fun (v2_3 : Int32) =>
      some v2_3
    ) fun K51 =>
  fX1_treeOf_L8 N s0 K51 N x1 x2
set_option maxRecDepth 100000 in
set_option maxHeartbeats 4000000 in
theorem kX1_treeOf (l : Launch) (D : va_G) (cA : Nat → ClassId) (ad : Nat → Nat) (h0 : Nat → Nat) (sz N : Nat) (a1 : Int32) (s0 : AccS) (q : Int32) (h : fX1_treeOf N a1 s0 = some q) : zM l yX1_treeOf cX1_treeOf 4 (some .int) ({ frames := 1, cells := 0, slots := 0, locals := 21 }) D cA ad (AccW cA h0 s0) sz [.ref (h0 0), .int a1] (some (.int q)) (AccW cA h0 s0) := by
  generalize erm : ({ frames := 1, cells := 0, slots := 0, locals := 21 } : Room) = rm
  refine zMet (by decide) (Nat.le_of_ble_eq_true rfl) ?_
  intro p e s m below meth c hx hb hr hlocks hml hts hown hin hK hP A eA hD hS hA hsz hN hE ls hl
  have hl : lv_has ls 4 [(0, .ref (h0 0)), (1, .int a1)] := hl
  clear eA
  rw [fX1_treeOf] at h
  refine lv_iconst (v := 1) hx hb dX1_treeOf_0 (by decide) ?_
  refine lv_iload_n hx hb dX1_treeOf_1 rfl (lv_at hl 1 rfl) ?_
  refine lv_ishl hx hb dX1_treeOf_2 ?_
  refine lv_topi (fun x1 ex1 => ?_)
  have h := x_let h ex1
  refine lv_istore_n (lv' := [(2, .int x1), (0, .ref (h0 0)), (1, .int a1)]) hx hb dX1_treeOf_3 rfl hl (by decide) rfl (fun ls hl => ?_)
  refine lv_iload_n hx hb dX1_treeOf_4 rfl (lv_at hl 2 rfl) ?_
  refine lv_iconst (v := 1) hx hb dX1_treeOf_5 (by decide) ?_
  refine lv_iadd hx hb dX1_treeOf_6 ?_
  refine lv_topi (fun x2 ex2 => ?_)
  have h := x_let h ex2
  refine lv_istore_n (lv' := [(3, .int x2), (2, .int x1), (0, .ref (h0 0)), (1, .int a1)]) hx hb dX1_treeOf_7 rfl hl (by decide) rfl (fun ls hl => ?_)
  obtain ⟨K51, eK51, h⟩ := x_join h
  have hJ_K51 : ∀ (v2_3 : Int32) (H : Heap) (locs : List Loc), va_P D vwCl (AccW cA h0 s0) H → va_D A (AccW cA h0 s0) → va_S A s.heap H locs → ∀ ls : Array Slot, lv_has ls 4 [(2, .int v2_3)] → K51 v2_3 = some q → W p l e rm s m ([.ref (h0 0), .int a1] : List Value).toArray below meth c H locs 0 0 (MQ below (xQ D cA A (AccW cA h0 s0) (some (.int q))) ([.ref (h0 0), .int a1] : List Value).toArray s 0 0 A) (F0 m 51 ls []) := by
    clear h hP hD hS hl
    intro v2_3 H locs hP hD hS ls hl h
    rw [eK51] at h
    refine lv_iload_n hx hb dX1_treeOf_51 rfl (lv_at hl 0 rfl) ?_
    have h := Option.some.inj h
    subst h
    exact xIret hx hb hr hlocks hP hK hD hS dX1_treeOf_52
  have hL8 : ∀ (n : Nat) (v2_4 : Int32) (v3_4 : Int32) (H : Heap) (locs : List Loc), va_P D vwCl (AccW cA h0 s0) H → va_D A (AccW cA h0 s0) → va_S A s.heap H locs → ∀ ls : Array Slot, lv_has ls 4 [(0, .ref (h0 0)), (2, .int v2_4), (3, .int v3_4)] → fX1_treeOf_L8 N s0 K51 n v2_4 v3_4 = some q → W p l e rm s m ([.ref (h0 0), .int a1] : List Value).toArray below meth c H locs 0 0 (MQ below (xQ D cA A (AccW cA h0 s0) (some (.int q))) ([.ref (h0 0), .int a1] : List Value).toArray s 0 0 A) (F0 m 8 ls []) := by
    clear h hP hD hS hl
    intro n
    induction n with
    | zero => intro v2_4 v3_4 H locs hP hD hS ls hl h; rw [fX1_treeOf_L8] at h; cases h
    | succ n ih =>
      intro v2_4 v3_4 H locs hP hD hS ls hl h
      rw [fX1_treeOf_L8] at h
      refine lv_iload_n hx hb dX1_treeOf_8 rfl (lv_at hl 2 rfl) ?_
      refine lv_aload_n hx hb dX1_treeOf_9 rfl (lv_at hl 0 rfl) ?_
      refine va_get (D := D) (ci := 2) (v := .int s0.2.2.2.2) (C := RX1) (T := TX1) (N := 5) hx hb hts iX1 hown hK hP 0 rfl rfl 4 (by decide) (hts _ qfl_X1_34) (fun _ h9 => h9) rfl dX1_treeOf_10 ?_
      refine lv_icmp_ge (tgt := 51) hx hb dX1_treeOf_13 (by decide) (fun c5 => ?_) (fun c5 => ?_)
      · have h := x_t h c5
        exact hJ_K51 v2_4 _ _ hP hD hS _ (lv_sub hl [1] rfl) h
      · have h := x_f h c5
        refine lv_aload_n hx hb dX1_treeOf_16 rfl (lv_at hl 0 rfl) ?_
        refine va_get (D := D) (ci := 2) (v := .ref (h0 2)) (C := RX1) (T := TX1) (N := 5) hx hb hts iX1 hown hK hP 0 rfl rfl 1 (by decide) (hts _ qfl_X1_15) (fun _ h9 => h9) rfl dX1_treeOf_17 ?_
        refine lv_iload_n hx hb dX1_treeOf_20 rfl (lv_at hl 2 rfl) ?_
        obtain ⟨k6, hk6, h⟩ := x_rd h
        refine xIald hx hb hK hP 2 0 rfl rfl hk6 dX1_treeOf_21 ?_
        refine lv_iconst (v := (-1)) hx hb dX1_treeOf_22 (by decide) ?_
        obtain ⟨J45, eJ45, h⟩ := x_join h
        have hJ_J45 : ∀ (v2_7 : Int32) (v3_7 : Int32) (H : Heap) (locs : List Loc), va_P D vwCl (AccW cA h0 s0) H → va_D A (AccW cA h0 s0) → va_S A s.heap H locs → ∀ ls : Array Slot, lv_has ls 4 [(0, .ref (h0 0)), (2, .int v2_7), (3, .int v3_7)] → J45 v2_7 v3_7 = some q → W p l e rm s m ([.ref (h0 0), .int a1] : List Value).toArray below meth c H locs 0 0 (MQ below (xQ D cA A (AccW cA h0 s0) (some (.int q))) ([.ref (h0 0), .int a1] : List Value).toArray s 0 0 A) (F0 m 45 ls []) := by
          clear h hP hD hS hl
          intro v2_7 v3_7 H locs hP hD hS ls hl h
          rw [eJ45] at h
          obtain ⟨x8, ex8⟩ : ∃ y : Int32, y = v3_7 + (1) := ⟨_, rfl⟩
          have h := x_let h ex8
          refine lv_iinc (v := x8) (lv' := [(3, .int x8), (0, .ref (h0 0)), (2, .int v2_7)]) hx hb dX1_treeOf_45 hl (k := 2) rfl (by rw [ex8]; rfl) (by decide) rfl (fun ls hl => ?_)
          refine lv_goto (tgt := 8) hx hb dX1_treeOf_48 (by decide) ?_
          exact ih v2_7 x8 _ _ hP hD hS _ (lv_sub hl [1, 2, 0] rfl) h
        refine lv_icmp_eq (tgt := 45) hx hb dX1_treeOf_23 (by decide) (fun c9 => ?_) (fun c9 => ?_)
        · have h := x_t h c9
          exact hJ_J45 v2_4 v3_4 _ _ hP hD hS _ (lv_sub hl [0, 1, 2] rfl) h
        · have h := x_f h c9
          refine lv_aload_n hx hb dX1_treeOf_26 rfl (lv_at hl 0 rfl) ?_
          refine va_get (D := D) (ci := 2) (v := .ref (h0 2)) (C := RX1) (T := TX1) (N := 5) hx hb hts iX1 hown hK hP 0 rfl rfl 1 (by decide) (hts _ qfl_X1_15) (fun _ h9 => h9) rfl dX1_treeOf_27 ?_
          refine lv_iload_n hx hb dX1_treeOf_30 rfl (lv_at hl 2 rfl) ?_
          obtain ⟨k10, hk10, h⟩ := x_rd h
          refine xIald hx hb hK hP 2 0 rfl rfl hk10 dX1_treeOf_31 ?_
          refine lv_iload_n hx hb dX1_treeOf_32 rfl (lv_at hl 1 rfl) ?_
          obtain ⟨q11, c11, h⟩ := x_call h
          refine xCall (w2 := AccW cA h0 s0) (xRunSN (n := 2) (As := [.int (s0.2.1 k10), .int v2_4]) (rest := []) ⟨hx, hb, hml, hown, hts⟩ (kX12_isInSet l D cA  _ N (s0.2.1 k10) v2_4 q11 c11) qco_X12_isInSet hN qmn_X1_80 qst_X12_isInSet qini_X12 (by decide +kernel) (by rw [← erm]; rfl) hK rfl rfl hl.1 rfl (lv_room (Nat.le_of_ble_eq_true rfl)) dX1_treeOf_33 ⟨Nat.zero_le _, Nat.zero_le _⟩) hP hD hS hA [] [0, 1, 2, 3, 4] [0, 1, 2, 3, 4] rfl (wr := [(h0 0, .inr (2, [.ref (h0 1), .ref (h0 2), .ref (h0 3), .ref (h0 4), .int (s0.2.2.2.2)])), (h0 1, .inl (cA 1, 12, .inl (s0.1))), (h0 2, .inl (cA 0, 12, .inl (s0.2.1))), (h0 3, .inl (cA 2, 12, .inr (.inl (s0.2.2.1)))), (h0 4, .inl (cA 2, 12, .inr (.inl (s0.2.2.2.1))))]) rfl rfl rfl rfl rfl (fun H locs hP hD hS => ?_)
          refine lv_if_eq (tgt := 45) hx hb dX1_treeOf_36 (by decide) (fun c12 => ?_) (fun c12 => ?_)
          · have h := x_t h c12
            exact hJ_J45 v2_4 v3_4 _ _ hP hD hS _ (lv_sub hl [0, 1, 2] rfl) h
          · have h := x_f h c12
            refine lv_iload_n hx hb dX1_treeOf_39 rfl (lv_at hl 1 rfl) ?_
            refine lv_iconst (v := 1) hx hb dX1_treeOf_40 (by decide) ?_
            refine lv_iload_n hx hb dX1_treeOf_41 rfl (lv_at hl 2 rfl) ?_
            refine lv_ishl hx hb dX1_treeOf_42 ?_
            refine lv_ior hx hb dX1_treeOf_43 ?_
            refine lv_topi (fun x13 ex13 => ?_)
            have h := x_let h ex13
            refine lv_istore_n (lv' := [(2, .int x13), (0, .ref (h0 0)), (3, .int v3_4)]) hx hb dX1_treeOf_44 rfl hl (by decide) rfl (fun ls hl => ?_)
            exact hJ_J45 x13 v3_4 _ _ hP hD hS _ (lv_sub hl [1, 0, 2] rfl) h
  exact hL8 N x1 x2 _ _ hP hD hS _ (lv_sub hl [2, 1, 0] rfl) h
def fX1_sizeOfTree (N : Nat) (a1 : Int32) (s0 : AccS) : Option (Int32) :=
  xcall (fX1_treeOf N a1 s0) fun q1 =>
  xcall (fJ6_bitCount_0f7a4 N q1) fun q2 =>
  some q2
set_option maxRecDepth 100000 in
set_option maxHeartbeats 4000000 in
theorem kX1_sizeOfTree (l : Launch) (D : va_G) (cA : Nat → ClassId) (ad : Nat → Nat) (h0 : Nat → Nat) (sz N : Nat) (a1 : Int32) (s0 : AccS) (q : Int32) (h : fX1_sizeOfTree N a1 s0 = some q) : zM l yX1_sizeOfTree cX1_sizeOfTree 2 (some .int) ({ frames := 2, cells := 0, slots := 0, locals := 44 }) D cA ad (AccW cA h0 s0) sz [.ref (h0 0), .int a1] (some (.int q)) (AccW cA h0 s0) := by
  generalize erm : ({ frames := 2, cells := 0, slots := 0, locals := 44 } : Room) = rm
  refine zMet (by decide) (Nat.le_of_ble_eq_true rfl) ?_
  intro p e s m below meth c hx hb hr hlocks hml hts hown hin hK hP A eA hD hS hA hsz hN hE ls hl
  have hl : lv_has ls 2 [(0, .ref (h0 0)), (1, .int a1)] := hl
  clear eA
  rw [fX1_sizeOfTree] at h
  refine lv_aload_n hx hb dX1_sizeOfTree_0 rfl (lv_at hl 0 rfl) ?_
  refine lv_iload_n hx hb dX1_sizeOfTree_1 rfl (lv_at hl 1 rfl) ?_
  obtain ⟨q1, c1, h⟩ := x_call h
  refine xCall (w2 := AccW cA h0 s0) (zRunV (n := 1) (As := [.int a1]) (rest := []) ⟨hx, hb, hml, hown, hts⟩ (kX1_treeOf l D cA ad h0 _ N a1 s0 q1 c1) qco_X1_treeOf qml_X1_84 qin_X1_treeOf qse_X1_treeOf qini_X1 (by decide +kernel) (by rw [← erm]; rfl) hN hE hS hA hK hP hD [0, 1, 2, 3, 4] rfl rfl (q0 := 0) rfl rfl rfl rfl rfl hl.1 rfl (lv_room (Nat.le_of_ble_eq_true rfl)) dX1_sizeOfTree_2 ⟨Nat.zero_le _, Nat.zero_le _⟩) hP hD hS hA [0, 1, 2, 3, 4] [] [0, 1, 2, 3, 4] rfl (wr := []) rfl rfl rfl rfl rfl (fun H locs hP hD hS => ?_)
  obtain ⟨q2, c2, h⟩ := x_call h
  refine xCall (w2 := AccW cA h0 s0) (xRunS (n := 1) (As := [.int q1]) (rest := []) ⟨hx, hb, hml, hown, hts⟩ (kJ6_bitCount_0f7a4 l D cA  _ N q1 q2 c2) qco_J6_bitCount_0f7a4 qml_X1_88 qst_J6_bitCount_0f7a4 qini_J6 (by decide +kernel) (by rw [← erm]; rfl) hK hP hD [] rfl rfl rfl rfl hl.1 rfl (lv_room (Nat.le_of_ble_eq_true rfl)) dX1_sizeOfTree_5 ⟨Nat.zero_le _, Nat.zero_le _⟩) hP hD hS hA [] [0, 1, 2, 3, 4] [0, 1, 2, 3, 4] rfl (wr := [(h0 0, .inr (2, [.ref (h0 1), .ref (h0 2), .ref (h0 3), .ref (h0 4), .int (s0.2.2.2.2)])), (h0 1, .inl (cA 1, 12, .inl (s0.1))), (h0 2, .inl (cA 0, 12, .inl (s0.2.1))), (h0 3, .inl (cA 2, 12, .inr (.inl (s0.2.2.1)))), (h0 4, .inl (cA 2, 12, .inr (.inl (s0.2.2.2.1))))]) rfl rfl rfl rfl rfl (fun H locs hP hD hS => ?_)
  have h := Option.some.inj h
  subst h
  exact xIret hx hb hr hlocks hP hK hD hS dX1_sizeOfTree_8
def fX1_sumOfTree_L11 (N : Nat) (s0 : AccS) (K44 : Int64 → Option (Int64)) : Nat → Int32 → Int64 → Int32 → Option (Int64)
  | 0, _, _, _ => none
  | n + 1, v2_3, v3_3, v5_3 =>
    if s0.2.2.2.2 ≤ v5_3 then
      K44 v3_3
    else
      xcall (fX12_isInSet N v5_3 v2_3) fun q5 =>
      xjoin (fun (v2_6 : Int32) (v3_6 : Int64) (v5_6 : Int32) =>
          xlet (v5_6 + (1)) fun x7 =>
          fX1_sumOfTree_L11 N s0 K44 n v2_6 v3_6 x7
        ) fun J38 =>
      if q5 = 0 then
        J38 v2_3 v3_3 v5_3
      else
        xcall (fX1_balanceAt N v5_3 s0) fun q9 =>
        xlet (v3_3 + q9) fun x10 =>
        J38 v2_3 x10 v5_3
def fX1_sumOfTree (N : Nat) (a1 : Int32) (s0 : AccS) : Option (Int64) :=
  xcall (fX1_treeOf N a1 s0) fun q1 =>
  xjoin (fun (v3_2 : Int64) =>
      some v3_2
    ) fun K44 =>
  fX1_sumOfTree_L11 N s0 K44 N q1 0 a1
set_option maxRecDepth 100000 in
set_option maxHeartbeats 4000000 in
theorem kX1_sumOfTree (l : Launch) (D : va_G) (cA : Nat → ClassId) (ad : Nat → Nat) (h0 : Nat → Nat) (sz N : Nat) (a1 : Int32) (s0 : AccS) (q : Int64) (h : fX1_sumOfTree N a1 s0 = some q) : zM l yX1_sumOfTree cX1_sumOfTree 6 (some .long) ({ frames := 2, cells := 0, slots := 0, locals := 44 }) D cA ad (AccW cA h0 s0) sz [.ref (h0 0), .int a1] (some (.long q)) (AccW cA h0 s0) := by
  generalize erm : ({ frames := 2, cells := 0, slots := 0, locals := 44 } : Room) = rm
  refine zMet (by decide) (Nat.le_of_ble_eq_true rfl) ?_
  intro p e s m below meth c hx hb hr hlocks hml hts hown hin hK hP A eA hD hS hA hsz hN hE ls hl
  have hl : lv_has ls 6 [(0, .ref (h0 0)), (1, .int a1)] := hl
  clear eA
  rw [fX1_sumOfTree] at h
  refine lv_aload_n hx hb dX1_sumOfTree_0 rfl (lv_at hl 0 rfl) ?_
  refine lv_iload_n hx hb dX1_sumOfTree_1 rfl (lv_at hl 1 rfl) ?_
  obtain ⟨q1, c1, h⟩ := x_call h
  refine xCall (w2 := AccW cA h0 s0) (zRunV (n := 1) (As := [.int a1]) (rest := []) ⟨hx, hb, hml, hown, hts⟩ (kX1_treeOf l D cA ad h0 _ N a1 s0 q1 c1) qco_X1_treeOf qml_X1_84 qin_X1_treeOf qse_X1_treeOf qini_X1 (by decide +kernel) (by rw [← erm]; rfl) hN hE hS hA hK hP hD [0, 1, 2, 3, 4] rfl rfl (q0 := 0) rfl rfl rfl rfl rfl hl.1 rfl (lv_room (Nat.le_of_ble_eq_true rfl)) dX1_sumOfTree_2 ⟨Nat.zero_le _, Nat.zero_le _⟩) hP hD hS hA [0, 1, 2, 3, 4] [] [0, 1, 2, 3, 4] rfl (wr := []) rfl rfl rfl rfl rfl (fun H locs hP hD hS => ?_)
  refine lv_istore_n (lv' := [(2, .int q1), (0, .ref (h0 0)), (1, .int a1)]) hx hb dX1_sumOfTree_5 rfl hl (by decide) rfl (fun ls hl => ?_)
  refine lv_lconst (v := 0) hx hb dX1_sumOfTree_6 (by decide) ?_
  refine lv_lstore_n (lv' := [(3, .long 0), (2, .int q1), (0, .ref (h0 0)), (1, .int a1)]) hx hb dX1_sumOfTree_7 rfl hl (by decide) rfl (fun ls hl => ?_)
  refine lv_iload_n hx hb dX1_sumOfTree_8 rfl (lv_at hl 3 rfl) ?_
  refine lv_istore (lv' := [(5, .int a1), (3, .long 0), (2, .int q1), (0, .ref (h0 0)), (1, .int a1)]) hx hb dX1_sumOfTree_9 hl (by decide) rfl (fun ls hl => ?_)
  obtain ⟨K44, eK44, h⟩ := x_join h
  have hJ_K44 : ∀ (v3_2 : Int64) (H : Heap) (locs : List Loc), va_P D vwCl (AccW cA h0 s0) H → va_D A (AccW cA h0 s0) → va_S A s.heap H locs → ∀ ls : Array Slot, lv_has ls 6 [(3, .long v3_2)] → K44 v3_2 = some q → W p l e rm s m ([.ref (h0 0), .int a1] : List Value).toArray below meth c H locs 0 0 (MQ below (xQ D cA A (AccW cA h0 s0) (some (.long q))) ([.ref (h0 0), .int a1] : List Value).toArray s 0 0 A) (F0 m 44 ls []) := by
    clear h hP hD hS hl
    intro v3_2 H locs hP hD hS ls hl h
    rw [eK44] at h
    refine lv_lload_n hx hb dX1_sumOfTree_44 rfl (lv_at hl 0 rfl) ?_
    have h := Option.some.inj h
    subst h
    exact xLret hx hb hr hlocks hP hK hD hS dX1_sumOfTree_45
  have hL11 : ∀ (n : Nat) (v2_3 : Int32) (v3_3 : Int64) (v5_3 : Int32) (H : Heap) (locs : List Loc), va_P D vwCl (AccW cA h0 s0) H → va_D A (AccW cA h0 s0) → va_S A s.heap H locs → ∀ ls : Array Slot, lv_has ls 6 [(0, .ref (h0 0)), (2, .int v2_3), (3, .long v3_3), (5, .int v5_3)] → fX1_sumOfTree_L11 N s0 K44 n v2_3 v3_3 v5_3 = some q → W p l e rm s m ([.ref (h0 0), .int a1] : List Value).toArray below meth c H locs 0 0 (MQ below (xQ D cA A (AccW cA h0 s0) (some (.long q))) ([.ref (h0 0), .int a1] : List Value).toArray s 0 0 A) (F0 m 11 ls []) := by
    clear h hP hD hS hl
    intro n
    induction n with
    | zero => intro v2_3 v3_3 v5_3 H locs hP hD hS ls hl h; rw [fX1_sumOfTree_L11] at h; cases h
    | succ n ih =>
      intro v2_3 v3_3 v5_3 H locs hP hD hS ls hl h
      rw [fX1_sumOfTree_L11] at h
      refine lv_iload hx hb dX1_sumOfTree_11 (lv_at hl 3 rfl) ?_
      refine lv_aload_n hx hb dX1_sumOfTree_13 rfl (lv_at hl 0 rfl) ?_
      refine va_get (D := D) (ci := 2) (v := .int s0.2.2.2.2) (C := RX1) (T := TX1) (N := 5) hx hb hts iX1 hown hK hP 0 rfl rfl 4 (by decide) (hts _ qfl_X1_34) (fun _ h9 => h9) rfl dX1_sumOfTree_14 ?_
      refine lv_icmp_ge (tgt := 44) hx hb dX1_sumOfTree_17 (by decide) (fun c4 => ?_) (fun c4 => ?_)
      · have h := x_t h c4
        exact hJ_K44 v3_3 _ _ hP hD hS _ (lv_sub hl [2] rfl) h
      · have h := x_f h c4
        refine lv_iload hx hb dX1_sumOfTree_20 (lv_at hl 3 rfl) ?_
        refine lv_iload_n hx hb dX1_sumOfTree_22 rfl (lv_at hl 1 rfl) ?_
        obtain ⟨q5, c5, h⟩ := x_call h
        refine xCall (w2 := AccW cA h0 s0) (xRunSN (n := 2) (As := [.int v5_3, .int v2_3]) (rest := []) ⟨hx, hb, hml, hown, hts⟩ (kX12_isInSet l D cA  _ N v5_3 v2_3 q5 c5) qco_X12_isInSet hN qmn_X1_80 qst_X12_isInSet qini_X12 (by decide +kernel) (by rw [← erm]; rfl) hK rfl rfl hl.1 rfl (lv_room (Nat.le_of_ble_eq_true rfl)) dX1_sumOfTree_23 ⟨Nat.zero_le _, Nat.zero_le _⟩) hP hD hS hA [] [0, 1, 2, 3, 4] [0, 1, 2, 3, 4] rfl (wr := [(h0 0, .inr (2, [.ref (h0 1), .ref (h0 2), .ref (h0 3), .ref (h0 4), .int (s0.2.2.2.2)])), (h0 1, .inl (cA 1, 12, .inl (s0.1))), (h0 2, .inl (cA 0, 12, .inl (s0.2.1))), (h0 3, .inl (cA 2, 12, .inr (.inl (s0.2.2.1)))), (h0 4, .inl (cA 2, 12, .inr (.inl (s0.2.2.2.1))))]) rfl rfl rfl rfl rfl (fun H locs hP hD hS => ?_)
        obtain ⟨J38, eJ38, h⟩ := x_join h
        have hJ_J38 : ∀ (v2_6 : Int32) (v3_6 : Int64) (v5_6 : Int32) (H : Heap) (locs : List Loc), va_P D vwCl (AccW cA h0 s0) H → va_D A (AccW cA h0 s0) → va_S A s.heap H locs → ∀ ls : Array Slot, lv_has ls 6 [(0, .ref (h0 0)), (2, .int v2_6), (3, .long v3_6), (5, .int v5_6)] → J38 v2_6 v3_6 v5_6 = some q → W p l e rm s m ([.ref (h0 0), .int a1] : List Value).toArray below meth c H locs 0 0 (MQ below (xQ D cA A (AccW cA h0 s0) (some (.long q))) ([.ref (h0 0), .int a1] : List Value).toArray s 0 0 A) (F0 m 38 ls []) := by
          clear h hP hD hS hl
          intro v2_6 v3_6 v5_6 H locs hP hD hS ls hl h
          rw [eJ38] at h
          obtain ⟨x7, ex7⟩ : ∃ y : Int32, y = v5_6 + (1) := ⟨_, rfl⟩
          have h := x_let h ex7
          refine lv_iinc (v := x7) (lv' := [(5, .int x7), (0, .ref (h0 0)), (2, .int v2_6), (3, .long v3_6)]) hx hb dX1_sumOfTree_38 hl (k := 3) rfl (by rw [ex7]; rfl) (by decide) rfl (fun ls hl => ?_)
          refine lv_goto (tgt := 11) hx hb dX1_sumOfTree_41 (by decide) ?_
          exact ih v2_6 v3_6 x7 _ _ hP hD hS _ (lv_sub hl [1, 2, 3, 0] rfl) h
        refine lv_if_eq (tgt := 38) hx hb dX1_sumOfTree_26 (by decide) (fun c8 => ?_) (fun c8 => ?_)
        · have h := x_t h c8
          exact hJ_J38 v2_3 v3_3 v5_3 _ _ hP hD hS _ (lv_sub hl [0, 1, 2, 3] rfl) h
        · have h := x_f h c8
          refine lv_lload_n hx hb dX1_sumOfTree_29 rfl (lv_at hl 2 rfl) ?_
          refine lv_aload_n hx hb dX1_sumOfTree_30 rfl (lv_at hl 0 rfl) ?_
          refine lv_iload hx hb dX1_sumOfTree_31 (lv_at hl 3 rfl) ?_
          obtain ⟨q9, c9, h⟩ := x_call h
          refine xCall (w2 := AccW cA h0 s0) (zRunV (n := 1) (As := [.int v5_3]) (rest := [.long v3_3]) ⟨hx, hb, hml, hown, hts⟩ (kX1_balanceAt l D cA ad h0 _ N v5_3 s0 q9 c9) qco_X1_balanceAt qml_X1_93 qin_X1_balanceAt qse_X1_balanceAt qini_X1 (by decide +kernel) (by rw [← erm]; rfl) hN hE hS hA hK hP hD [0, 1, 2, 3, 4] rfl rfl (q0 := 0) rfl rfl rfl rfl rfl hl.1 rfl (lv_room (Nat.le_of_ble_eq_true rfl)) dX1_sumOfTree_33 ⟨Nat.zero_le _, Nat.zero_le _⟩) hP hD hS hA [0, 1, 2, 3, 4] [] [0, 1, 2, 3, 4] rfl (wr := []) rfl rfl rfl rfl rfl (fun H locs hP hD hS => ?_)
          refine lv_ladd hx hb dX1_sumOfTree_36 ?_
          refine lv_topl (fun x10 ex10 => ?_)
          have h := x_let h ex10
          refine lv_lstore_n (lv' := [(3, .long x10), (0, .ref (h0 0)), (2, .int v2_3), (5, .int v5_3)]) hx hb dX1_sumOfTree_37 rfl hl (by decide) rfl (fun ls hl => ?_)
          exact hJ_J38 v2_3 x10 v5_3 _ _ hP hD hS _ (lv_sub hl [1, 2, 0, 3] rfl) h
  exact hL11 N q1 0 a1 _ _ hP hD hS _ (lv_sub hl [3, 2, 1, 0] rfl) h
def fX1_leadsUpTo_L5 (N : Nat) (s0 : AccS) (K30 : Int32 → Int32 → Option (Int32)) : Nat → Int32 → Int32 → Int32 → Option (Int32)
  | 0, _, _, _ => none
  | n + 1, v2_5, v3_5, v4_5 =>
    if 12 ≤ v4_5 then
      K30 v2_5 v3_5
    else
      if v3_5 ≤ v2_5 then
        K30 v2_5 v3_5
      else
        xrd 12 v3_5 fun k8 =>
        xlet (s0.2.1 k8) fun x9 =>
        xlet (v4_5 + (1)) fun x10 =>
        fX1_leadsUpTo_L5 N s0 K30 n v2_5 x9 x10
def fX1_leadsUpTo (N : Nat) (a1 : Int32) (a2 : Int32) (s0 : AccS) : Option (Int32) :=
  xjoin (fun (v2_1 : Int32) (v3_1 : Int32) =>
      xjoin (fun (t0_2 : Int32) =>
          xnz (xnar .boolean t0_2) <|
          some t0_2
        ) fun J40 =>
      if v3_1 = v2_1 then
        J40 1
      else
        J40 0
    ) fun K30 =>
  fX1_leadsUpTo_L5 N s0 K30 N a2 a1 0
set_option maxRecDepth 100000 in
set_option maxHeartbeats 4000000 in
theorem kX1_leadsUpTo (l : Launch) (D : va_G) (cA : Nat → ClassId) (ad : Nat → Nat) (h0 : Nat → Nat) (sz N : Nat) (a1 : Int32) (a2 : Int32) (s0 : AccS) (q : Int32) (h : fX1_leadsUpTo N a1 a2 s0 = some q) : zM l yX1_leadsUpTo cX1_leadsUpTo 5 (some .boolean) ({ frames := 0, cells := 0, slots := 0, locals := 0 }) D cA ad (AccW cA h0 s0) sz [.ref (h0 0), .int a1, .int a2] (some (.int q)) (AccW cA h0 s0) := by
  generalize erm : ({ frames := 0, cells := 0, slots := 0, locals := 0 } : Room) = rm
  refine zMet (by decide) (Nat.le_of_ble_eq_true rfl) ?_
  intro p e s m below meth c hx hb hr hlocks hml hts hown hin hK hP A eA hD hS hA hsz hN hE ls hl
  have hl : lv_has ls 5 [(0, .ref (h0 0)), (1, .int a1), (2, .int a2)] := hl
  clear eA
  rw [fX1_leadsUpTo] at h
  refine lv_iload_n hx hb dX1_leadsUpTo_0 rfl (lv_at hl 1 rfl) ?_
  refine lv_istore_n (lv' := [(3, .int a1), (0, .ref (h0 0)), (1, .int a1), (2, .int a2)]) hx hb dX1_leadsUpTo_1 rfl hl (by decide) rfl (fun ls hl => ?_)
  refine lv_iconst (v := 0) hx hb dX1_leadsUpTo_2 (by decide) ?_
  refine lv_istore (lv' := [(4, .int 0), (3, .int a1), (0, .ref (h0 0)), (1, .int a1), (2, .int a2)]) hx hb dX1_leadsUpTo_3 hl (by decide) rfl (fun ls hl => ?_)
  obtain ⟨K30, eK30, h⟩ := x_join h
  have hJ_K30 : ∀ (v2_1 : Int32) (v3_1 : Int32) (H : Heap) (locs : List Loc), va_P D vwCl (AccW cA h0 s0) H → va_D A (AccW cA h0 s0) → va_S A s.heap H locs → ∀ ls : Array Slot, lv_has ls 5 [(2, .int v2_1), (3, .int v3_1)] → K30 v2_1 v3_1 = some q → W p l e rm s m ([.ref (h0 0), .int a1, .int a2] : List Value).toArray below meth c H locs 0 0 (MQ below (xQ D cA A (AccW cA h0 s0) (some (.int q))) ([.ref (h0 0), .int a1, .int a2] : List Value).toArray s 0 0 A) (F0 m 30 ls []) := by
    clear h hP hD hS hl
    intro v2_1 v3_1 H locs hP hD hS ls hl h
    rw [eK30] at h
    refine lv_iload_n hx hb dX1_leadsUpTo_30 rfl (lv_at hl 1 rfl) ?_
    refine lv_iload_n hx hb dX1_leadsUpTo_31 rfl (lv_at hl 0 rfl) ?_
    obtain ⟨J40, eJ40, h⟩ := x_join h
    have hJ_J40 : ∀ (t0_2 : Int32) (H : Heap) (locs : List Loc), va_P D vwCl (AccW cA h0 s0) H → va_D A (AccW cA h0 s0) → va_S A s.heap H locs → ∀ ls : Array Slot, lv_has ls 5 [] → J40 t0_2 = some q → W p l e rm s m ([.ref (h0 0), .int a1, .int a2] : List Value).toArray below meth c H locs 0 0 (MQ below (xQ D cA A (AccW cA h0 s0) (some (.int q))) ([.ref (h0 0), .int a1, .int a2] : List Value).toArray s 0 0 A) (F0 m 40 ls [.int t0_2]) := by
      clear h hP hD hS hl
      intro t0_2 H locs hP hD hS ls hl h
      rw [eJ40] at h
      obtain ⟨z3, h⟩ := x_nz h
      have h := Option.some.inj h
      subst h
      exact xZret hx hb hr hlocks (xnar_n z3) hP hK hD hS dX1_leadsUpTo_40
    refine lv_icmp_ne (tgt := 39) hx hb dX1_leadsUpTo_32 (by decide) (fun c4 => ?_) (fun c4 => ?_)
    · have h := x_f h c4
      refine lv_iconst (v := 0) hx hb dX1_leadsUpTo_39 (by decide) ?_
      exact hJ_J40 0 _ _ hP hD hS _ (lv_sub hl [] rfl) h
    · have h := x_t h c4
      refine lv_iconst (v := 1) hx hb dX1_leadsUpTo_35 (by decide) ?_
      refine lv_goto (tgt := 40) hx hb dX1_leadsUpTo_36 (by decide) ?_
      exact hJ_J40 1 _ _ hP hD hS _ (lv_sub hl [] rfl) h
  have hL5 : ∀ (n : Nat) (v2_5 : Int32) (v3_5 : Int32) (v4_5 : Int32) (H : Heap) (locs : List Loc), va_P D vwCl (AccW cA h0 s0) H → va_D A (AccW cA h0 s0) → va_S A s.heap H locs → ∀ ls : Array Slot, lv_has ls 5 [(0, .ref (h0 0)), (2, .int v2_5), (3, .int v3_5), (4, .int v4_5)] → fX1_leadsUpTo_L5 N s0 K30 n v2_5 v3_5 v4_5 = some q → W p l e rm s m ([.ref (h0 0), .int a1, .int a2] : List Value).toArray below meth c H locs 0 0 (MQ below (xQ D cA A (AccW cA h0 s0) (some (.int q))) ([.ref (h0 0), .int a1, .int a2] : List Value).toArray s 0 0 A) (F0 m 5 ls []) := by
    clear h hP hD hS hl
    intro n
    induction n with
    | zero => intro v2_5 v3_5 v4_5 H locs hP hD hS ls hl h; rw [fX1_leadsUpTo_L5] at h; cases h
    | succ n ih =>
      intro v2_5 v3_5 v4_5 H locs hP hD hS ls hl h
      rw [fX1_leadsUpTo_L5] at h
      refine lv_iload hx hb dX1_leadsUpTo_5 (lv_at hl 3 rfl) ?_
      refine lv_bipush (v := 12) hx hb dX1_leadsUpTo_7 (by decide) ?_
      refine lv_icmp_ge (tgt := 30) hx hb dX1_leadsUpTo_9 (by decide) (fun c6 => ?_) (fun c6 => ?_)
      · have h := x_t h c6
        exact hJ_K30 v2_5 v3_5 _ _ hP hD hS _ (lv_sub hl [1, 2] rfl) h
      · have h := x_f h c6
        refine lv_iload_n hx hb dX1_leadsUpTo_12 rfl (lv_at hl 2 rfl) ?_
        refine lv_iload_n hx hb dX1_leadsUpTo_13 rfl (lv_at hl 1 rfl) ?_
        refine lv_icmp_le (tgt := 30) hx hb dX1_leadsUpTo_14 (by decide) (fun c7 => ?_) (fun c7 => ?_)
        · have h := x_t h c7
          exact hJ_K30 v2_5 v3_5 _ _ hP hD hS _ (lv_sub hl [1, 2] rfl) h
        · have h := x_f h c7
          refine lv_aload_n hx hb dX1_leadsUpTo_17 rfl (lv_at hl 0 rfl) ?_
          refine va_get (D := D) (ci := 2) (v := .ref (h0 2)) (C := RX1) (T := TX1) (N := 5) hx hb hts iX1 hown hK hP 0 rfl rfl 1 (by decide) (hts _ qfl_X1_15) (fun _ h9 => h9) rfl dX1_leadsUpTo_18 ?_
          refine lv_iload_n hx hb dX1_leadsUpTo_21 rfl (lv_at hl 2 rfl) ?_
          obtain ⟨k8, hk8, h⟩ := x_rd h
          refine xIald hx hb hK hP 2 0 rfl rfl hk8 dX1_leadsUpTo_22 ?_
          refine lv_topi (fun x9 ex9 => ?_)
          have h := x_let h ex9
          refine lv_istore_n (lv' := [(3, .int x9), (0, .ref (h0 0)), (2, .int v2_5), (4, .int v4_5)]) hx hb dX1_leadsUpTo_23 rfl hl (by decide) rfl (fun ls hl => ?_)
          obtain ⟨x10, ex10⟩ : ∃ y : Int32, y = v4_5 + (1) := ⟨_, rfl⟩
          have h := x_let h ex10
          refine lv_iinc (v := x10) (lv' := [(4, .int x10), (3, .int x9), (0, .ref (h0 0)), (2, .int v2_5)]) hx hb dX1_leadsUpTo_24 hl (k := 3) rfl (by rw [ex10]; rfl) (by decide) rfl (fun ls hl => ?_)
          refine lv_goto (tgt := 5) hx hb dX1_leadsUpTo_27 (by decide) ?_
          exact ih v2_5 x9 x10 _ _ hP hD hS _ (lv_sub hl [2, 3, 1, 0] rfl) h
  exact hL5 N a2 a1 0 _ _ hP hD hS _ (lv_sub hl [2, 4, 1, 0] rfl) h
def fX1_sumOfThoseBelow_L5 (N : Nat) (s0 : AccS) (K39 : Int64 → Option (Int64)) : Nat → Int32 → Int64 → Int32 → Option (Int64)
  | 0, _, _, _ => none
  | n + 1, v1_2, v2_2, v4_2 =>
    if s0.2.2.2.2 ≤ v4_2 then
      K39 v2_2
    else
      xcall (fX1_leadsUpTo N v4_2 v1_2 s0) fun q4 =>
      xjoin (fun (v1_5 : Int32) (v2_5 : Int64) (v4_5 : Int32) =>
          xlet (v4_5 + (1)) fun x6 =>
          fX1_sumOfThoseBelow_L5 N s0 K39 n v1_5 v2_5 x6
        ) fun J33 =>
      if q4 = 0 then
        J33 v1_2 v2_2 v4_2
      else
        xcall (fX1_balanceAt N v4_2 s0) fun q8 =>
        xlet (v2_2 + q8) fun x9 =>
        J33 v1_2 x9 v4_2
def fX1_sumOfThoseBelow (N : Nat) (a1 : Int32) (s0 : AccS) : Option (Int64) :=
  xjoin (fun (v2_1 : Int64) =>
      some v2_1
    ) fun K39 =>
  fX1_sumOfThoseBelow_L5 N s0 K39 N a1 0 0
set_option maxRecDepth 100000 in
set_option maxHeartbeats 4000000 in
theorem kX1_sumOfThoseBelow (l : Launch) (D : va_G) (cA : Nat → ClassId) (ad : Nat → Nat) (h0 : Nat → Nat) (sz N : Nat) (a1 : Int32) (s0 : AccS) (q : Int64) (h : fX1_sumOfThoseBelow N a1 s0 = some q) : zM l yX1_sumOfThoseBelow cX1_sumOfThoseBelow 5 (some .long) ({ frames := 1, cells := 0, slots := 0, locals := 24 }) D cA ad (AccW cA h0 s0) sz [.ref (h0 0), .int a1] (some (.long q)) (AccW cA h0 s0) := by
  generalize erm : ({ frames := 1, cells := 0, slots := 0, locals := 24 } : Room) = rm
  refine zMet (by decide) (Nat.le_of_ble_eq_true rfl) ?_
  intro p e s m below meth c hx hb hr hlocks hml hts hown hin hK hP A eA hD hS hA hsz hN hE ls hl
  have hl : lv_has ls 5 [(0, .ref (h0 0)), (1, .int a1)] := hl
  clear eA
  rw [fX1_sumOfThoseBelow] at h
  refine lv_lconst (v := 0) hx hb dX1_sumOfThoseBelow_0 (by decide) ?_
  refine lv_lstore_n (lv' := [(2, .long 0), (0, .ref (h0 0)), (1, .int a1)]) hx hb dX1_sumOfThoseBelow_1 rfl hl (by decide) rfl (fun ls hl => ?_)
  refine lv_iconst (v := 0) hx hb dX1_sumOfThoseBelow_2 (by decide) ?_
  refine lv_istore (lv' := [(4, .int 0), (2, .long 0), (0, .ref (h0 0)), (1, .int a1)]) hx hb dX1_sumOfThoseBelow_3 hl (by decide) rfl (fun ls hl => ?_)
  obtain ⟨K39, eK39, h⟩ := x_join h
  have hJ_K39 : ∀ (v2_1 : Int64) (H : Heap) (locs : List Loc), va_P D vwCl (AccW cA h0 s0) H → va_D A (AccW cA h0 s0) → va_S A s.heap H locs → ∀ ls : Array Slot, lv_has ls 5 [(2, .long v2_1)] → K39 v2_1 = some q → W p l e rm s m ([.ref (h0 0), .int a1] : List Value).toArray below meth c H locs 0 0 (MQ below (xQ D cA A (AccW cA h0 s0) (some (.long q))) ([.ref (h0 0), .int a1] : List Value).toArray s 0 0 A) (F0 m 39 ls []) := by
    clear h hP hD hS hl
    intro v2_1 H locs hP hD hS ls hl h
    rw [eK39] at h
    refine lv_lload_n hx hb dX1_sumOfThoseBelow_39 rfl (lv_at hl 0 rfl) ?_
    have h := Option.some.inj h
    subst h
    exact xLret hx hb hr hlocks hP hK hD hS dX1_sumOfThoseBelow_40
  have hL5 : ∀ (n : Nat) (v1_2 : Int32) (v2_2 : Int64) (v4_2 : Int32) (H : Heap) (locs : List Loc), va_P D vwCl (AccW cA h0 s0) H → va_D A (AccW cA h0 s0) → va_S A s.heap H locs → ∀ ls : Array Slot, lv_has ls 5 [(0, .ref (h0 0)), (1, .int v1_2), (2, .long v2_2), (4, .int v4_2)] → fX1_sumOfThoseBelow_L5 N s0 K39 n v1_2 v2_2 v4_2 = some q → W p l e rm s m ([.ref (h0 0), .int a1] : List Value).toArray below meth c H locs 0 0 (MQ below (xQ D cA A (AccW cA h0 s0) (some (.long q))) ([.ref (h0 0), .int a1] : List Value).toArray s 0 0 A) (F0 m 5 ls []) := by
    clear h hP hD hS hl
    intro n
    induction n with
    | zero => intro v1_2 v2_2 v4_2 H locs hP hD hS ls hl h; rw [fX1_sumOfThoseBelow_L5] at h; cases h
    | succ n ih =>
      intro v1_2 v2_2 v4_2 H locs hP hD hS ls hl h
      rw [fX1_sumOfThoseBelow_L5] at h
      refine lv_iload hx hb dX1_sumOfThoseBelow_5 (lv_at hl 3 rfl) ?_
      refine lv_aload_n hx hb dX1_sumOfThoseBelow_7 rfl (lv_at hl 0 rfl) ?_
      refine va_get (D := D) (ci := 2) (v := .int s0.2.2.2.2) (C := RX1) (T := TX1) (N := 5) hx hb hts iX1 hown hK hP 0 rfl rfl 4 (by decide) (hts _ qfl_X1_34) (fun _ h9 => h9) rfl dX1_sumOfThoseBelow_8 ?_
      refine lv_icmp_ge (tgt := 39) hx hb dX1_sumOfThoseBelow_11 (by decide) (fun c3 => ?_) (fun c3 => ?_)
      · have h := x_t h c3
        exact hJ_K39 v2_2 _ _ hP hD hS _ (lv_sub hl [2] rfl) h
      · have h := x_f h c3
        refine lv_aload_n hx hb dX1_sumOfThoseBelow_14 rfl (lv_at hl 0 rfl) ?_
        refine lv_iload hx hb dX1_sumOfThoseBelow_15 (lv_at hl 3 rfl) ?_
        refine lv_iload_n hx hb dX1_sumOfThoseBelow_17 rfl (lv_at hl 1 rfl) ?_
        obtain ⟨q4, c4, h⟩ := x_call h
        refine xCall (w2 := AccW cA h0 s0) (zRunV (n := 2) (As := [.int v4_2, .int v1_2]) (rest := []) ⟨hx, hb, hml, hown, hts⟩ (kX1_leadsUpTo l D cA ad h0 _ N v4_2 v1_2 s0 q4 c4) qco_X1_leadsUpTo qml_X1_97 qin_X1_leadsUpTo qse_X1_leadsUpTo qini_X1 (by decide +kernel) (by rw [← erm]; rfl) hN hE hS hA hK hP hD [0, 1, 2, 3, 4] rfl rfl (q0 := 0) rfl rfl rfl rfl rfl hl.1 rfl (lv_room (Nat.le_of_ble_eq_true rfl)) dX1_sumOfThoseBelow_18 ⟨Nat.zero_le _, Nat.zero_le _⟩) hP hD hS hA [0, 1, 2, 3, 4] [] [0, 1, 2, 3, 4] rfl (wr := []) rfl rfl rfl rfl rfl (fun H locs hP hD hS => ?_)
        obtain ⟨J33, eJ33, h⟩ := x_join h
        have hJ_J33 : ∀ (v1_5 : Int32) (v2_5 : Int64) (v4_5 : Int32) (H : Heap) (locs : List Loc), va_P D vwCl (AccW cA h0 s0) H → va_D A (AccW cA h0 s0) → va_S A s.heap H locs → ∀ ls : Array Slot, lv_has ls 5 [(0, .ref (h0 0)), (1, .int v1_5), (2, .long v2_5), (4, .int v4_5)] → J33 v1_5 v2_5 v4_5 = some q → W p l e rm s m ([.ref (h0 0), .int a1] : List Value).toArray below meth c H locs 0 0 (MQ below (xQ D cA A (AccW cA h0 s0) (some (.long q))) ([.ref (h0 0), .int a1] : List Value).toArray s 0 0 A) (F0 m 33 ls []) := by
          clear h hP hD hS hl
          intro v1_5 v2_5 v4_5 H locs hP hD hS ls hl h
          rw [eJ33] at h
          obtain ⟨x6, ex6⟩ : ∃ y : Int32, y = v4_5 + (1) := ⟨_, rfl⟩
          have h := x_let h ex6
          refine lv_iinc (v := x6) (lv' := [(4, .int x6), (0, .ref (h0 0)), (1, .int v1_5), (2, .long v2_5)]) hx hb dX1_sumOfThoseBelow_33 hl (k := 3) rfl (by rw [ex6]; rfl) (by decide) rfl (fun ls hl => ?_)
          refine lv_goto (tgt := 5) hx hb dX1_sumOfThoseBelow_36 (by decide) ?_
          exact ih v1_5 v2_5 x6 _ _ hP hD hS _ (lv_sub hl [1, 2, 3, 0] rfl) h
        refine lv_if_eq (tgt := 33) hx hb dX1_sumOfThoseBelow_21 (by decide) (fun c7 => ?_) (fun c7 => ?_)
        · have h := x_t h c7
          exact hJ_J33 v1_2 v2_2 v4_2 _ _ hP hD hS _ (lv_sub hl [0, 1, 2, 3] rfl) h
        · have h := x_f h c7
          refine lv_lload_n hx hb dX1_sumOfThoseBelow_24 rfl (lv_at hl 2 rfl) ?_
          refine lv_aload_n hx hb dX1_sumOfThoseBelow_25 rfl (lv_at hl 0 rfl) ?_
          refine lv_iload hx hb dX1_sumOfThoseBelow_26 (lv_at hl 3 rfl) ?_
          obtain ⟨q8, c8, h⟩ := x_call h
          refine xCall (w2 := AccW cA h0 s0) (zRunV (n := 1) (As := [.int v4_2]) (rest := [.long v2_2]) ⟨hx, hb, hml, hown, hts⟩ (kX1_balanceAt l D cA ad h0 _ N v4_2 s0 q8 c8) qco_X1_balanceAt qml_X1_93 qin_X1_balanceAt qse_X1_balanceAt qini_X1 (by decide +kernel) (by rw [← erm]; rfl) hN hE hS hA hK hP hD [0, 1, 2, 3, 4] rfl rfl (q0 := 0) rfl rfl rfl rfl rfl hl.1 rfl (lv_room (Nat.le_of_ble_eq_true rfl)) dX1_sumOfThoseBelow_28 ⟨Nat.zero_le _, Nat.zero_le _⟩) hP hD hS hA [0, 1, 2, 3, 4] [] [0, 1, 2, 3, 4] rfl (wr := []) rfl rfl rfl rfl rfl (fun H locs hP hD hS => ?_)
          refine lv_ladd hx hb dX1_sumOfThoseBelow_31 ?_
          refine lv_topl (fun x9 ex9 => ?_)
          have h := x_let h ex9
          refine lv_lstore_n (lv' := [(2, .long x9), (0, .ref (h0 0)), (1, .int v1_2), (4, .int v4_2)]) hx hb dX1_sumOfThoseBelow_32 rfl hl (by decide) rfl (fun ls hl => ?_)
          exact hJ_J33 v1_2 x9 v4_2 _ _ hP hD hS _ (lv_sub hl [1, 2, 0, 3] rfl) h
  exact hL5 N a1 0 0 _ _ hP hD hS _ (lv_sub hl [2, 3, 1, 0] rfl) h
def fX1_treesAgree_L2 (N : Nat) (s0 : AccS) (K32 : Unit → Option (Int32)) : Nat → Int32 → Option (Int32)
  | 0, _ => none
  | n + 1, v1_2 =>
    if s0.2.2.2.2 ≤ v1_2 then
      K32 ()
    else
      xcall (fX1_sumOfTree N v1_2 s0) fun q4 =>
      xcall (fX1_sumOfThoseBelow N v1_2 s0) fun q5 =>
      if (lg_cmp q4 q5) = 0 then
        xlet (v1_2 + (1)) fun x7 =>
        fX1_treesAgree_L2 N s0 K32 n x7
      else
        some 0
def fX1_treesAgree (N : Nat)  (s0 : AccS) : Option (Int32) :=
  xjoin (fun (u_1 : Unit) =>
      some 1
    ) fun K32 =>
  fX1_treesAgree_L2 N s0 K32 N 0
set_option maxRecDepth 100000 in
set_option maxHeartbeats 4000000 in
theorem kX1_treesAgree (l : Launch) (D : va_G) (cA : Nat → ClassId) (ad : Nat → Nat) (h0 : Nat → Nat) (sz N : Nat)  (s0 : AccS) (q : Int32) (h : fX1_treesAgree N s0 = some q) : zM l yX1_treesAgree cX1_treesAgree 2 (some .boolean) ({ frames := 3, cells := 0, slots := 0, locals := 69 }) D cA ad (AccW cA h0 s0) sz [.ref (h0 0)] (some (.int q)) (AccW cA h0 s0) := by
  generalize erm : ({ frames := 3, cells := 0, slots := 0, locals := 69 } : Room) = rm
  refine zMet (by decide) (Nat.le_of_ble_eq_true rfl) ?_
  intro p e s m below meth c hx hb hr hlocks hml hts hown hin hK hP A eA hD hS hA hsz hN hE ls hl
  have hl : lv_has ls 2 [(0, .ref (h0 0))] := hl
  clear eA
  rw [fX1_treesAgree] at h
  refine lv_iconst (v := 0) hx hb dX1_treesAgree_0 (by decide) ?_
  refine lv_istore_n (lv' := [(1, .int 0), (0, .ref (h0 0))]) hx hb dX1_treesAgree_1 rfl hl (by decide) rfl (fun ls hl => ?_)
  obtain ⟨K32, eK32, h⟩ := x_join h
  have hJ_K32 : ∀ (u_1 : Unit) (H : Heap) (locs : List Loc), va_P D vwCl (AccW cA h0 s0) H → va_D A (AccW cA h0 s0) → va_S A s.heap H locs → ∀ ls : Array Slot, lv_has ls 2 [] → K32 u_1 = some q → W p l e rm s m ([.ref (h0 0)] : List Value).toArray below meth c H locs 0 0 (MQ below (xQ D cA A (AccW cA h0 s0) (some (.int q))) ([.ref (h0 0)] : List Value).toArray s 0 0 A) (F0 m 32 ls []) := by
    clear h hP hD hS hl
    intro u_1 H locs hP hD hS ls hl h
    rw [eK32] at h
    refine lv_iconst (v := 1) hx hb dX1_treesAgree_32 (by decide) ?_
    have h := Option.some.inj h
    subst h
    exact xZret (v := 1) hx hb hr hlocks (by decide) hP hK hD hS dX1_treesAgree_33
  have hL2 : ∀ (n : Nat) (v1_2 : Int32) (H : Heap) (locs : List Loc), va_P D vwCl (AccW cA h0 s0) H → va_D A (AccW cA h0 s0) → va_S A s.heap H locs → ∀ ls : Array Slot, lv_has ls 2 [(0, .ref (h0 0)), (1, .int v1_2)] → fX1_treesAgree_L2 N s0 K32 n v1_2 = some q → W p l e rm s m ([.ref (h0 0)] : List Value).toArray below meth c H locs 0 0 (MQ below (xQ D cA A (AccW cA h0 s0) (some (.int q))) ([.ref (h0 0)] : List Value).toArray s 0 0 A) (F0 m 2 ls []) := by
    clear h hP hD hS hl
    intro n
    induction n with
    | zero => intro v1_2 H locs hP hD hS ls hl h; rw [fX1_treesAgree_L2] at h; cases h
    | succ n ih =>
      intro v1_2 H locs hP hD hS ls hl h
      rw [fX1_treesAgree_L2] at h
      refine lv_iload_n hx hb dX1_treesAgree_2 rfl (lv_at hl 1 rfl) ?_
      refine lv_aload_n hx hb dX1_treesAgree_3 rfl (lv_at hl 0 rfl) ?_
      refine va_get (D := D) (ci := 2) (v := .int s0.2.2.2.2) (C := RX1) (T := TX1) (N := 5) hx hb hts iX1 hown hK hP 0 rfl rfl 4 (by decide) (hts _ qfl_X1_34) (fun _ h9 => h9) rfl dX1_treesAgree_4 ?_
      refine lv_icmp_ge (tgt := 32) hx hb dX1_treesAgree_7 (by decide) (fun c3 => ?_) (fun c3 => ?_)
      · have h := x_t h c3
        exact hJ_K32 () _ _ hP hD hS _ (lv_sub hl [] rfl) h
      · have h := x_f h c3
        refine lv_aload_n hx hb dX1_treesAgree_10 rfl (lv_at hl 0 rfl) ?_
        refine lv_iload_n hx hb dX1_treesAgree_11 rfl (lv_at hl 1 rfl) ?_
        obtain ⟨q4, c4, h⟩ := x_call h
        refine xCall (w2 := AccW cA h0 s0) (zRunV (n := 1) (As := [.int v1_2]) (rest := []) ⟨hx, hb, hml, hown, hts⟩ (kX1_sumOfTree l D cA ad h0 _ N v1_2 s0 q4 c4) qco_X1_sumOfTree qml_X1_100 qin_X1_sumOfTree qse_X1_sumOfTree qini_X1 (by decide +kernel) (by rw [← erm]; rfl) hN hE hS hA hK hP hD [0, 1, 2, 3, 4] rfl rfl (q0 := 0) rfl rfl rfl rfl rfl hl.1 rfl (lv_room (Nat.le_of_ble_eq_true rfl)) dX1_treesAgree_12 ⟨Nat.zero_le _, Nat.zero_le _⟩) hP hD hS hA [0, 1, 2, 3, 4] [] [0, 1, 2, 3, 4] rfl (wr := []) rfl rfl rfl rfl rfl (fun H locs hP hD hS => ?_)
        refine lv_aload_n hx hb dX1_treesAgree_15 rfl (lv_at hl 0 rfl) ?_
        refine lv_iload_n hx hb dX1_treesAgree_16 rfl (lv_at hl 1 rfl) ?_
        obtain ⟨q5, c5, h⟩ := x_call h
        refine xCall (w2 := AccW cA h0 s0) (zRunV (n := 1) (As := [.int v1_2]) (rest := [.long q4]) ⟨hx, hb, hml, hown, hts⟩ (kX1_sumOfThoseBelow l D cA ad h0 _ N v1_2 s0 q5 c5) qco_X1_sumOfThoseBelow qml_X1_103 qin_X1_sumOfThoseBelow qse_X1_sumOfThoseBelow qini_X1 (by decide +kernel) (by rw [← erm]; rfl) hN hE hS hA hK hP hD [0, 1, 2, 3, 4] rfl rfl (q0 := 0) rfl rfl rfl rfl rfl hl.1 rfl (lv_room (Nat.le_of_ble_eq_true rfl)) dX1_treesAgree_17 ⟨Nat.zero_le _, Nat.zero_le _⟩) hP hD hS hA [0, 1, 2, 3, 4] [] [0, 1, 2, 3, 4] rfl (wr := []) rfl rfl rfl rfl rfl (fun H locs hP hD hS => ?_)
        refine W.lcmp hx hb dX1_treesAgree_20 ?_
        refine lv_if_eq (tgt := 26) hx hb dX1_treesAgree_21 (by decide) (fun c6 => ?_) (fun c6 => ?_)
        · have h := x_t h c6
          obtain ⟨x7, ex7⟩ : ∃ y : Int32, y = v1_2 + (1) := ⟨_, rfl⟩
          have h := x_let h ex7
          refine lv_iinc (v := x7) (lv' := [(1, .int x7), (0, .ref (h0 0))]) hx hb dX1_treesAgree_26 hl (k := 1) rfl (by rw [ex7]; rfl) (by decide) rfl (fun ls hl => ?_)
          refine lv_goto (tgt := 2) hx hb dX1_treesAgree_29 (by decide) ?_
          exact ih x7 _ _ hP hD hS _ (lv_sub hl [1, 0] rfl) h
        · have h := x_f h c6
          refine lv_iconst (v := 0) hx hb dX1_treesAgree_24 (by decide) ?_
          have h := Option.some.inj h
          subst h
          exact xZret (v := 0) hx hb hr hlocks (by decide) hP hK hD hS dX1_treesAgree_25
  exact hL2 N 0 _ _ hP hD hS _ (lv_sub hl [1, 0] rfl) h
def fX1_rankOf_L12 (N : Nat) (s0 : AccS) (K58 : Int32 → Option (Int32)) : Nat → Int32 → Int64 → Int32 → Int32 → Option (Int32)
  | 0, _, _, _, _ => none
  | n + 1, v1_3, v2_3, v4_3, v5_3 =>
    if s0.2.2.2.2 ≤ v5_3 then
      K58 v4_3
    else
      xcall (fX1_balanceAt N v5_3 s0) fun q5 =>
      xjoin (fun (v1_6 : Int32) (v2_6 : Int64) (v4_6 : Int32) (v5_6 : Int32) =>
          xlet (v5_6 + (1)) fun x7 =>
          fX1_rankOf_L12 N s0 K58 n v1_6 v2_6 v4_6 x7
        ) fun J52 =>
      xjoin (fun (v1_8 : Int32) (v2_8 : Int64) (v4_8 : Int32) (v5_8 : Int32) =>
          xlet (v4_8 + (1)) fun x9 =>
          J52 v1_8 v2_8 x9 v5_8
        ) fun J49 =>
      if 0 < (lg_cmp q5 v2_3) then
        J49 v1_3 v2_3 v4_3 v5_3
      else
        if (lg_cmp q5 v2_3) = 0 then
          if v1_3 ≤ v5_3 then
            J52 v1_3 v2_3 v4_3 v5_3
          else
            J49 v1_3 v2_3 v4_3 v5_3
        else
          J52 v1_3 v2_3 v4_3 v5_3
def fX1_rankOf (N : Nat) (a1 : Int32) (s0 : AccS) : Option (Int32) :=
  xcall (fX1_balanceAt N a1 s0) fun q1 =>
  xjoin (fun (v4_2 : Int32) =>
      some v4_2
    ) fun K58 =>
  fX1_rankOf_L12 N s0 K58 N a1 q1 0 0
set_option maxRecDepth 100000 in
set_option maxHeartbeats 4000000 in
theorem kX1_rankOf (l : Launch) (D : va_G) (cA : Nat → ClassId) (ad : Nat → Nat) (h0 : Nat → Nat) (sz N : Nat) (a1 : Int32) (s0 : AccS) (q : Int32) (h : fX1_rankOf N a1 s0 = some q) : zM l yX1_rankOf cX1_rankOf 8 (some .int) ({ frames := 1, cells := 0, slots := 0, locals := 23 }) D cA ad (AccW cA h0 s0) sz [.ref (h0 0), .int a1] (some (.int q)) (AccW cA h0 s0) := by
  generalize erm : ({ frames := 1, cells := 0, slots := 0, locals := 23 } : Room) = rm
  refine zMet (by decide) (Nat.le_of_ble_eq_true rfl) ?_
  intro p e s m below meth c hx hb hr hlocks hml hts hown hin hK hP A eA hD hS hA hsz hN hE ls hl
  have hl : lv_has ls 8 [(0, .ref (h0 0)), (1, .int a1)] := hl
  clear eA
  rw [fX1_rankOf] at h
  refine lv_aload_n hx hb dX1_rankOf_0 rfl (lv_at hl 0 rfl) ?_
  refine lv_iload_n hx hb dX1_rankOf_1 rfl (lv_at hl 1 rfl) ?_
  obtain ⟨q1, c1, h⟩ := x_call h
  refine xCall (w2 := AccW cA h0 s0) (zRunV (n := 1) (As := [.int a1]) (rest := []) ⟨hx, hb, hml, hown, hts⟩ (kX1_balanceAt l D cA ad h0 _ N a1 s0 q1 c1) qco_X1_balanceAt qml_X1_93 qin_X1_balanceAt qse_X1_balanceAt qini_X1 (by decide +kernel) (by rw [← erm]; rfl) hN hE hS hA hK hP hD [0, 1, 2, 3, 4] rfl rfl (q0 := 0) rfl rfl rfl rfl rfl hl.1 rfl (lv_room (Nat.le_of_ble_eq_true rfl)) dX1_rankOf_2 ⟨Nat.zero_le _, Nat.zero_le _⟩) hP hD hS hA [0, 1, 2, 3, 4] [] [0, 1, 2, 3, 4] rfl (wr := []) rfl rfl rfl rfl rfl (fun H locs hP hD hS => ?_)
  refine lv_lstore_n (lv' := [(2, .long q1), (0, .ref (h0 0)), (1, .int a1)]) hx hb dX1_rankOf_5 rfl hl (by decide) rfl (fun ls hl => ?_)
  refine lv_iconst (v := 0) hx hb dX1_rankOf_6 (by decide) ?_
  refine lv_istore (lv' := [(4, .int 0), (2, .long q1), (0, .ref (h0 0)), (1, .int a1)]) hx hb dX1_rankOf_7 hl (by decide) rfl (fun ls hl => ?_)
  refine lv_iconst (v := 0) hx hb dX1_rankOf_9 (by decide) ?_
  refine lv_istore (lv' := [(5, .int 0), (4, .int 0), (2, .long q1), (0, .ref (h0 0)), (1, .int a1)]) hx hb dX1_rankOf_10 hl (by decide) rfl (fun ls hl => ?_)
  obtain ⟨K58, eK58, h⟩ := x_join h
  have hJ_K58 : ∀ (v4_2 : Int32) (H : Heap) (locs : List Loc), va_P D vwCl (AccW cA h0 s0) H → va_D A (AccW cA h0 s0) → va_S A s.heap H locs → ∀ ls : Array Slot, lv_has ls 8 [(4, .int v4_2)] → K58 v4_2 = some q → W p l e rm s m ([.ref (h0 0), .int a1] : List Value).toArray below meth c H locs 0 0 (MQ below (xQ D cA A (AccW cA h0 s0) (some (.int q))) ([.ref (h0 0), .int a1] : List Value).toArray s 0 0 A) (F0 m 58 ls []) := by
    clear h hP hD hS hl
    intro v4_2 H locs hP hD hS ls hl h
    rw [eK58] at h
    refine lv_iload hx hb dX1_rankOf_58 (lv_at hl 0 rfl) ?_
    have h := Option.some.inj h
    subst h
    exact xIret hx hb hr hlocks hP hK hD hS dX1_rankOf_60
  have hL12 : ∀ (n : Nat) (v1_3 : Int32) (v2_3 : Int64) (v4_3 : Int32) (v5_3 : Int32) (H : Heap) (locs : List Loc), va_P D vwCl (AccW cA h0 s0) H → va_D A (AccW cA h0 s0) → va_S A s.heap H locs → ∀ ls : Array Slot, lv_has ls 8 [(0, .ref (h0 0)), (1, .int v1_3), (2, .long v2_3), (4, .int v4_3), (5, .int v5_3)] → fX1_rankOf_L12 N s0 K58 n v1_3 v2_3 v4_3 v5_3 = some q → W p l e rm s m ([.ref (h0 0), .int a1] : List Value).toArray below meth c H locs 0 0 (MQ below (xQ D cA A (AccW cA h0 s0) (some (.int q))) ([.ref (h0 0), .int a1] : List Value).toArray s 0 0 A) (F0 m 12 ls []) := by
    clear h hP hD hS hl
    intro n
    induction n with
    | zero => intro v1_3 v2_3 v4_3 v5_3 H locs hP hD hS ls hl h; rw [fX1_rankOf_L12] at h; cases h
    | succ n ih =>
      intro v1_3 v2_3 v4_3 v5_3 H locs hP hD hS ls hl h
      rw [fX1_rankOf_L12] at h
      refine lv_iload hx hb dX1_rankOf_12 (lv_at hl 4 rfl) ?_
      refine lv_aload_n hx hb dX1_rankOf_14 rfl (lv_at hl 0 rfl) ?_
      refine va_get (D := D) (ci := 2) (v := .int s0.2.2.2.2) (C := RX1) (T := TX1) (N := 5) hx hb hts iX1 hown hK hP 0 rfl rfl 4 (by decide) (hts _ qfl_X1_34) (fun _ h9 => h9) rfl dX1_rankOf_15 ?_
      refine lv_icmp_ge (tgt := 58) hx hb dX1_rankOf_18 (by decide) (fun c4 => ?_) (fun c4 => ?_)
      · have h := x_t h c4
        exact hJ_K58 v4_3 _ _ hP hD hS _ (lv_sub hl [3] rfl) h
      · have h := x_f h c4
        refine lv_aload_n hx hb dX1_rankOf_21 rfl (lv_at hl 0 rfl) ?_
        refine lv_iload hx hb dX1_rankOf_22 (lv_at hl 4 rfl) ?_
        obtain ⟨q5, c5, h⟩ := x_call h
        refine xCall (w2 := AccW cA h0 s0) (zRunV (n := 1) (As := [.int v5_3]) (rest := []) ⟨hx, hb, hml, hown, hts⟩ (kX1_balanceAt l D cA ad h0 _ N v5_3 s0 q5 c5) qco_X1_balanceAt qml_X1_93 qin_X1_balanceAt qse_X1_balanceAt qini_X1 (by decide +kernel) (by rw [← erm]; rfl) hN hE hS hA hK hP hD [0, 1, 2, 3, 4] rfl rfl (q0 := 0) rfl rfl rfl rfl rfl hl.1 rfl (lv_room (Nat.le_of_ble_eq_true rfl)) dX1_rankOf_24 ⟨Nat.zero_le _, Nat.zero_le _⟩) hP hD hS hA [0, 1, 2, 3, 4] [] [0, 1, 2, 3, 4] rfl (wr := []) rfl rfl rfl rfl rfl (fun H locs hP hD hS => ?_)
        refine lv_lstore (lv' := [(6, .long q5), (0, .ref (h0 0)), (1, .int v1_3), (2, .long v2_3), (4, .int v4_3), (5, .int v5_3)]) hx hb dX1_rankOf_27 hl (by decide) rfl (fun ls hl => ?_)
        refine lv_lload hx hb dX1_rankOf_29 (lv_at hl 0 rfl) ?_
        refine lv_lload_n hx hb dX1_rankOf_31 rfl (lv_at hl 3 rfl) ?_
        refine W.lcmp hx hb dX1_rankOf_32 ?_
        obtain ⟨J52, eJ52, h⟩ := x_join h
        have hJ_J52 : ∀ (v1_6 : Int32) (v2_6 : Int64) (v4_6 : Int32) (v5_6 : Int32) (H : Heap) (locs : List Loc), va_P D vwCl (AccW cA h0 s0) H → va_D A (AccW cA h0 s0) → va_S A s.heap H locs → ∀ ls : Array Slot, lv_has ls 8 [(0, .ref (h0 0)), (1, .int v1_6), (2, .long v2_6), (4, .int v4_6), (5, .int v5_6)] → J52 v1_6 v2_6 v4_6 v5_6 = some q → W p l e rm s m ([.ref (h0 0), .int a1] : List Value).toArray below meth c H locs 0 0 (MQ below (xQ D cA A (AccW cA h0 s0) (some (.int q))) ([.ref (h0 0), .int a1] : List Value).toArray s 0 0 A) (F0 m 52 ls []) := by
          clear h hP hD hS hl
          intro v1_6 v2_6 v4_6 v5_6 H locs hP hD hS ls hl h
          rw [eJ52] at h
          obtain ⟨x7, ex7⟩ : ∃ y : Int32, y = v5_6 + (1) := ⟨_, rfl⟩
          have h := x_let h ex7
          refine lv_iinc (v := x7) (lv' := [(5, .int x7), (0, .ref (h0 0)), (1, .int v1_6), (2, .long v2_6), (4, .int v4_6)]) hx hb dX1_rankOf_52 hl (k := 4) rfl (by rw [ex7]; rfl) (by decide) rfl (fun ls hl => ?_)
          refine lv_goto (tgt := 12) hx hb dX1_rankOf_55 (by decide) ?_
          exact ih v1_6 v2_6 v4_6 x7 _ _ hP hD hS _ (lv_sub hl [1, 2, 3, 4, 0] rfl) h
        obtain ⟨J49, eJ49, h⟩ := x_join h
        have hJ_J49 : ∀ (v1_8 : Int32) (v2_8 : Int64) (v4_8 : Int32) (v5_8 : Int32) (H : Heap) (locs : List Loc), va_P D vwCl (AccW cA h0 s0) H → va_D A (AccW cA h0 s0) → va_S A s.heap H locs → ∀ ls : Array Slot, lv_has ls 8 [(0, .ref (h0 0)), (1, .int v1_8), (2, .long v2_8), (4, .int v4_8), (5, .int v5_8)] → J49 v1_8 v2_8 v4_8 v5_8 = some q → W p l e rm s m ([.ref (h0 0), .int a1] : List Value).toArray below meth c H locs 0 0 (MQ below (xQ D cA A (AccW cA h0 s0) (some (.int q))) ([.ref (h0 0), .int a1] : List Value).toArray s 0 0 A) (F0 m 49 ls []) := by
          clear h hP hD hS hl
          intro v1_8 v2_8 v4_8 v5_8 H locs hP hD hS ls hl h
          rw [eJ49] at h
          obtain ⟨x9, ex9⟩ : ∃ y : Int32, y = v4_8 + (1) := ⟨_, rfl⟩
          have h := x_let h ex9
          refine lv_iinc (v := x9) (lv' := [(4, .int x9), (0, .ref (h0 0)), (1, .int v1_8), (2, .long v2_8), (5, .int v5_8)]) hx hb dX1_rankOf_49 hl (k := 3) rfl (by rw [ex9]; rfl) (by decide) rfl (fun ls hl => ?_)
          exact hJ_J52 v1_8 v2_8 x9 v5_8 _ _ hP hD hS _ (lv_sub hl [1, 2, 3, 0, 4] rfl) h
        refine lv_if_gt (tgt := 49) hx hb dX1_rankOf_33 (by decide) (fun c10 => ?_) (fun c10 => ?_)
        · have h := x_t h c10
          exact hJ_J49 v1_3 v2_3 v4_3 v5_3 _ _ hP hD hS _ (lv_sub hl [1, 2, 3, 4, 5] rfl) h
        · have h := x_f h c10
          refine lv_lload hx hb dX1_rankOf_36 (lv_at hl 0 rfl) ?_
          refine lv_lload_n hx hb dX1_rankOf_38 rfl (lv_at hl 3 rfl) ?_
          refine W.lcmp hx hb dX1_rankOf_39 ?_
          refine lv_if_ne (tgt := 52) hx hb dX1_rankOf_40 (by decide) (fun c11 => ?_) (fun c11 => ?_)
          · have h := x_f h c11
            exact hJ_J52 v1_3 v2_3 v4_3 v5_3 _ _ hP hD hS _ (lv_sub hl [1, 2, 3, 4, 5] rfl) h
          · have h := x_t h c11
            refine lv_iload hx hb dX1_rankOf_43 (lv_at hl 5 rfl) ?_
            refine lv_iload_n hx hb dX1_rankOf_45 rfl (lv_at hl 2 rfl) ?_
            refine lv_icmp_ge (tgt := 52) hx hb dX1_rankOf_46 (by decide) (fun c12 => ?_) (fun c12 => ?_)
            · have h := x_t h c12
              exact hJ_J52 v1_3 v2_3 v4_3 v5_3 _ _ hP hD hS _ (lv_sub hl [1, 2, 3, 4, 5] rfl) h
            · have h := x_f h c12
              exact hJ_J49 v1_3 v2_3 v4_3 v5_3 _ _ hP hD hS _ (lv_sub hl [1, 2, 3, 4, 5] rfl) h
  exact hL12 N a1 q1 0 0 _ _ hP hD hS _ (lv_sub hl [3, 4, 2, 1, 0] rfl) h
def fX1_accountAtRank_L2 (N : Nat) (s0 : AccS) (K27 : Unit → Option (Int32)) : Nat → Int32 → Int32 → Option (Int32)
  | 0, _, _ => none
  | n + 1, v1_2, v2_2 =>
    if s0.2.2.2.2 ≤ v2_2 then
      K27 ()
    else
      xcall (fX1_rankOf N v2_2 s0) fun q4 =>
      if q4 = v1_2 then
        some v2_2
      else
        xlet (v2_2 + (1)) fun x6 =>
        fX1_accountAtRank_L2 N s0 K27 n v1_2 x6
def fX1_accountAtRank (N : Nat) (a1 : Int32) (s0 : AccS) : Option (Int32) :=
  xjoin (fun (u_1 : Unit) =>
      some (-1)
    ) fun K27 =>
  fX1_accountAtRank_L2 N s0 K27 N a1 0
set_option maxRecDepth 100000 in
set_option maxHeartbeats 4000000 in
theorem kX1_accountAtRank (l : Launch) (D : va_G) (cA : Nat → ClassId) (ad : Nat → Nat) (h0 : Nat → Nat) (sz N : Nat) (a1 : Int32) (s0 : AccS) (q : Int32) (h : fX1_accountAtRank N a1 s0 = some q) : zM l yX1_accountAtRank cX1_accountAtRank 3 (some .int) ({ frames := 2, cells := 0, slots := 0, locals := 50 }) D cA ad (AccW cA h0 s0) sz [.ref (h0 0), .int a1] (some (.int q)) (AccW cA h0 s0) := by
  generalize erm : ({ frames := 2, cells := 0, slots := 0, locals := 50 } : Room) = rm
  refine zMet (by decide) (Nat.le_of_ble_eq_true rfl) ?_
  intro p e s m below meth c hx hb hr hlocks hml hts hown hin hK hP A eA hD hS hA hsz hN hE ls hl
  have hl : lv_has ls 3 [(0, .ref (h0 0)), (1, .int a1)] := hl
  clear eA
  rw [fX1_accountAtRank] at h
  refine lv_iconst (v := 0) hx hb dX1_accountAtRank_0 (by decide) ?_
  refine lv_istore_n (lv' := [(2, .int 0), (0, .ref (h0 0)), (1, .int a1)]) hx hb dX1_accountAtRank_1 rfl hl (by decide) rfl (fun ls hl => ?_)
  obtain ⟨K27, eK27, h⟩ := x_join h
  have hJ_K27 : ∀ (u_1 : Unit) (H : Heap) (locs : List Loc), va_P D vwCl (AccW cA h0 s0) H → va_D A (AccW cA h0 s0) → va_S A s.heap H locs → ∀ ls : Array Slot, lv_has ls 3 [] → K27 u_1 = some q → W p l e rm s m ([.ref (h0 0), .int a1] : List Value).toArray below meth c H locs 0 0 (MQ below (xQ D cA A (AccW cA h0 s0) (some (.int q))) ([.ref (h0 0), .int a1] : List Value).toArray s 0 0 A) (F0 m 27 ls []) := by
    clear h hP hD hS hl
    intro u_1 H locs hP hD hS ls hl h
    rw [eK27] at h
    refine lv_iconst (v := (-1)) hx hb dX1_accountAtRank_27 (by decide) ?_
    have h := Option.some.inj h
    subst h
    exact xIret hx hb hr hlocks hP hK hD hS dX1_accountAtRank_28
  have hL2 : ∀ (n : Nat) (v1_2 : Int32) (v2_2 : Int32) (H : Heap) (locs : List Loc), va_P D vwCl (AccW cA h0 s0) H → va_D A (AccW cA h0 s0) → va_S A s.heap H locs → ∀ ls : Array Slot, lv_has ls 3 [(0, .ref (h0 0)), (1, .int v1_2), (2, .int v2_2)] → fX1_accountAtRank_L2 N s0 K27 n v1_2 v2_2 = some q → W p l e rm s m ([.ref (h0 0), .int a1] : List Value).toArray below meth c H locs 0 0 (MQ below (xQ D cA A (AccW cA h0 s0) (some (.int q))) ([.ref (h0 0), .int a1] : List Value).toArray s 0 0 A) (F0 m 2 ls []) := by
    clear h hP hD hS hl
    intro n
    induction n with
    | zero => intro v1_2 v2_2 H locs hP hD hS ls hl h; rw [fX1_accountAtRank_L2] at h; cases h
    | succ n ih =>
      intro v1_2 v2_2 H locs hP hD hS ls hl h
      rw [fX1_accountAtRank_L2] at h
      refine lv_iload_n hx hb dX1_accountAtRank_2 rfl (lv_at hl 2 rfl) ?_
      refine lv_aload_n hx hb dX1_accountAtRank_3 rfl (lv_at hl 0 rfl) ?_
      refine va_get (D := D) (ci := 2) (v := .int s0.2.2.2.2) (C := RX1) (T := TX1) (N := 5) hx hb hts iX1 hown hK hP 0 rfl rfl 4 (by decide) (hts _ qfl_X1_34) (fun _ h9 => h9) rfl dX1_accountAtRank_4 ?_
      refine lv_icmp_ge (tgt := 27) hx hb dX1_accountAtRank_7 (by decide) (fun c3 => ?_) (fun c3 => ?_)
      · have h := x_t h c3
        exact hJ_K27 () _ _ hP hD hS _ (lv_sub hl [] rfl) h
      · have h := x_f h c3
        refine lv_aload_n hx hb dX1_accountAtRank_10 rfl (lv_at hl 0 rfl) ?_
        refine lv_iload_n hx hb dX1_accountAtRank_11 rfl (lv_at hl 2 rfl) ?_
        obtain ⟨q4, c4, h⟩ := x_call h
        refine xCall (w2 := AccW cA h0 s0) (zRunV (n := 1) (As := [.int v2_2]) (rest := []) ⟨hx, hb, hml, hown, hts⟩ (kX1_rankOf l D cA ad h0 _ N v2_2 s0 q4 c4) qco_X1_rankOf qml_X1_106 qin_X1_rankOf qse_X1_rankOf qini_X1 (by decide +kernel) (by rw [← erm]; rfl) hN hE hS hA hK hP hD [0, 1, 2, 3, 4] rfl rfl (q0 := 0) rfl rfl rfl rfl rfl hl.1 rfl (lv_room (Nat.le_of_ble_eq_true rfl)) dX1_accountAtRank_12 ⟨Nat.zero_le _, Nat.zero_le _⟩) hP hD hS hA [0, 1, 2, 3, 4] [] [0, 1, 2, 3, 4] rfl (wr := []) rfl rfl rfl rfl rfl (fun H locs hP hD hS => ?_)
        refine lv_iload_n hx hb dX1_accountAtRank_15 rfl (lv_at hl 1 rfl) ?_
        refine lv_icmp_ne (tgt := 21) hx hb dX1_accountAtRank_16 (by decide) (fun c5 => ?_) (fun c5 => ?_)
        · have h := x_f h c5
          obtain ⟨x6, ex6⟩ : ∃ y : Int32, y = v2_2 + (1) := ⟨_, rfl⟩
          have h := x_let h ex6
          refine lv_iinc (v := x6) (lv' := [(2, .int x6), (0, .ref (h0 0)), (1, .int v1_2)]) hx hb dX1_accountAtRank_21 hl (k := 2) rfl (by rw [ex6]; rfl) (by decide) rfl (fun ls hl => ?_)
          refine lv_goto (tgt := 2) hx hb dX1_accountAtRank_24 (by decide) ?_
          exact ih v1_2 x6 _ _ hP hD hS _ (lv_sub hl [1, 2, 0] rfl) h
        · have h := x_t h c5
          refine lv_iload_n hx hb dX1_accountAtRank_19 rfl (lv_at hl 2 rfl) ?_
          have h := Option.some.inj h
          subst h
          exact xIret hx hb hr hlocks hP hK hD hS dX1_accountAtRank_20
  exact hL2 N a1 0 _ _ hP hD hS _ (lv_sub hl [1, 2, 0] rfl) h
