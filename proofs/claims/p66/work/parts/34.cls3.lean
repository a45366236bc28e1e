/-! method by method: what it computes, and that its bytes compute it -/
def fX6_copyFrom (N : Nat)  (s0 : JouS) (s1 : JouS) : Option (JouS × JouS) :=
  xlet (va_cpy s1.1 s0.1 0 0 20) fun g1 =>
  xlet (va_cpy s1.2.1 s0.2.1 0 0 20) fun g2 =>
  xlet (va_cpy s1.2.2.1 s0.2.2.1 0 0 20) fun g3 =>
  xlet (va_cpy s1.2.2.2.1 s0.2.2.2.1 0 0 20) fun g4 =>
  xlet (va_cpy s1.2.2.2.2.1 s0.2.2.2.2.1 0 0 20) fun g5 =>
  some ((Jous4 (Jous3 (Jous2 (Jous1 (Jous0 s1 g1) g2) g3) g4) g5), s1)
set_option maxRecDepth 100000 in
set_option maxHeartbeats 4000000 in
theorem kX6_copyFrom (l : Launch) (D : va_G) (cA : Nat → ClassId) (ad : Nat → Nat) (h0 : Nat → Nat) (h1 : Nat → Nat) (sz N : Nat)  (s0 : JouS) (s1 : JouS) (q : JouS × JouS) (h : fX6_copyFrom N s0 s1 = some q) : zM l yX6_copyFrom cX6_copyFrom 2 none ({ frames := 1, cells := 0, slots := 0, locals := 40 }) D cA ad (JouW cA h0 s0 ++ JouW cA h1 s1) sz [.ref (h0 0), .ref (h1 0)] (none) (JouW cA h0 q.1 ++ JouW cA h1 q.2) := by
  generalize erm : ({ frames := 1, cells := 0, slots := 0, locals := 40 } : Room) = rm
  refine zMet (by decide) (Nat.le_of_ble_eq_true rfl) ?_
  intro p e s m below meth c hx hb hr hlocks hml hts hown hin hK hP A eA hD hS hA hsz hN hE ls hl
  have hl : lv_has ls 2 [(0, .ref (h0 0)), (1, .ref (h1 0))] := hl
  clear eA
  rw [fX6_copyFrom] at h
  refine lv_aload_n hx hb dX6_copyFrom_0 rfl (lv_at hl 1 rfl) ?_
  refine va_get (D := D) (ci := 6) (v := .ref (h1 1)) (C := RX6) (T := TX6) (N := 6) hx hb hts iX6 hown hK hP 6 rfl rfl 0 (by decide) (hts _ qfl_X6_9) (fun _ h9 => h9) rfl dX6_copyFrom_1 ?_
  refine lv_iconst (v := 0) hx hb dX6_copyFrom_4 (by decide) ?_
  refine lv_aload_n hx hb dX6_copyFrom_5 rfl (lv_at hl 0 rfl) ?_
  refine va_get (D := D) (ci := 6) (v := .ref (h0 1)) (C := RX6) (T := TX6) (N := 6) hx hb hts iX6 hown hK hP 0 rfl rfl 0 (by decide) (hts _ qfl_X6_9) (fun _ h9 => h9) rfl dX6_copyFrom_6 ?_
  refine lv_iconst (v := 0) hx hb dX6_copyFrom_9 (by decide) ?_
  refine lv_bipush (v := 20) hx hb dX6_copyFrom_10 (by decide) ?_
  refine va_copyi (n := 20) (sp := 0) (dp := 0) (ty := .int) hx hb (hml.trans hl.1.symm) hown (hts _ qma_X6_28) (hts _ qnat_copy) (hts _ qsta_copy) (hts _ qini_sys) hK hP hD hS 7 1 0 0 rfl rfl rfl rfl rfl (by decide) (by decide) (by decide) (by decide) (by decide) (fun _ _ => rfl) (by rw [← erm]; exact Nat.le_of_ble_eq_true rfl) (by rw [← erm]; exact Nat.le_of_ble_eq_true rfl) dX6_copyFrom_12 (fun H locs hP hD hS => ?_)
  obtain ⟨g1, eg1⟩ : ∃ y : Nat → Int32, y = va_cpy s1.1 s0.1 0 0 20 := ⟨_, rfl⟩
  have h := x_let h eg1
  have hP : va_P D vwCl (JouW cA h0 ((Jous0 s0 g1)) ++ JouW cA h1 s1) H := by rw [eg1]; exact hP
  have hD : va_D A (JouW cA h0 ((Jous0 s0 g1)) ++ JouW cA h1 s1) := by rw [eg1]; exact hD
  refine lv_aload_n hx hb dX6_copyFrom_15 rfl (lv_at hl 1 rfl) ?_
  refine va_get (D := D) (ci := 6) (v := .ref (h1 2)) (C := RX6) (T := TX6) (N := 6) hx hb hts iX6 hown hK hP 6 rfl rfl 1 (by decide) (hts _ qfl_X6_15) (fun _ h9 => h9) rfl dX6_copyFrom_16 ?_
  refine lv_iconst (v := 0) hx hb dX6_copyFrom_19 (by decide) ?_
  refine lv_aload_n hx hb dX6_copyFrom_20 rfl (lv_at hl 0 rfl) ?_
  refine va_get (D := D) (ci := 6) (v := .ref (h0 2)) (C := RX6) (T := TX6) (N := 6) hx hb hts iX6 hown hK hP 0 rfl rfl 1 (by decide) (hts _ qfl_X6_15) (fun _ h9 => h9) rfl dX6_copyFrom_21 ?_
  refine lv_iconst (v := 0) hx hb dX6_copyFrom_24 (by decide) ?_
  refine lv_bipush (v := 20) hx hb dX6_copyFrom_25 (by decide) ?_
  refine va_copyi (n := 20) (sp := 0) (dp := 0) (ty := .int) hx hb (hml.trans hl.1.symm) hown (hts _ qma_X6_28) (hts _ qnat_copy) (hts _ qsta_copy) (hts _ qini_sys) hK hP hD hS 8 2 0 0 rfl rfl rfl rfl rfl (by decide) (by decide) (by decide) (by decide) (by decide) (fun _ _ => rfl) (by rw [← erm]; exact Nat.le_of_ble_eq_true rfl) (by rw [← erm]; exact Nat.le_of_ble_eq_true rfl) dX6_copyFrom_27 (fun H locs hP hD hS => ?_)
  obtain ⟨g2, eg2⟩ : ∃ y : Nat → Int32, y = va_cpy s1.2.1 s0.2.1 0 0 20 := ⟨_, rfl⟩
  have h := x_let h eg2
  have hP : va_P D vwCl (JouW cA h0 ((Jous1 (Jous0 s0 g1) g2)) ++ JouW cA h1 s1) H := by rw [eg2]; exact hP
  have hD : va_D A (JouW cA h0 ((Jous1 (Jous0 s0 g1) g2)) ++ JouW cA h1 s1) := by rw [eg2]; exact hD
  refine lv_aload_n hx hb dX6_copyFrom_30 rfl (lv_at hl 1 rfl) ?_
  refine va_get (D := D) (ci := 6) (v := .ref (h1 3)) (C := RX6) (T := TX6) (N := 6) hx hb hts iX6 hown hK hP 6 rfl rfl 2 (by decide) (hts _ qfl_X6_18) (fun _ h9 => h9) rfl dX6_copyFrom_31 ?_
  refine lv_iconst (v := 0) hx hb dX6_copyFrom_34 (by decide) ?_
  refine lv_aload_n hx hb dX6_copyFrom_35 rfl (lv_at hl 0 rfl) ?_
  refine va_get (D := D) (ci := 6) (v := .ref (h0 3)) (C := RX6) (T := TX6) (N := 6) hx hb hts iX6 hown hK hP 0 rfl rfl 2 (by decide) (hts _ qfl_X6_18) (fun _ h9 => h9) rfl dX6_copyFrom_36 ?_
  refine lv_iconst (v := 0) hx hb dX6_copyFrom_39 (by decide) ?_
  refine lv_bipush (v := 20) hx hb dX6_copyFrom_40 (by decide) ?_
  refine va_copyl (n := 20) (sp := 0) (dp := 0) (ty := .long) hx hb (hml.trans hl.1.symm) hown (hts _ qma_X6_28) (hts _ qnat_copy) (hts _ qsta_copy) (hts _ qini_sys) hK hP hD hS 9 3 2 2 rfl rfl rfl rfl rfl (by decide) (by decide) (by decide) (by decide) (by decide) (fun _ _ => rfl) (by rw [← erm]; exact Nat.le_of_ble_eq_true rfl) (by rw [← erm]; exact Nat.le_of_ble_eq_true rfl) dX6_copyFrom_42 (fun H locs hP hD hS => ?_)
  obtain ⟨g3, eg3⟩ : ∃ y : Nat → Int64, y = va_cpy s1.2.2.1 s0.2.2.1 0 0 20 := ⟨_, rfl⟩
  have h := x_let h eg3
  have hP : va_P D vwCl (JouW cA h0 ((Jous2 (Jous1 (Jous0 s0 g1) g2) g3)) ++ JouW cA h1 s1) H := by rw [eg3]; exact hP
  have hD : va_D A (JouW cA h0 ((Jous2 (Jous1 (Jous0 s0 g1) g2) g3)) ++ JouW cA h1 s1) := by rw [eg3]; exact hD
  refine lv_aload_n hx hb dX6_copyFrom_45 rfl (lv_at hl 1 rfl) ?_
  refine va_get (D := D) (ci := 6) (v := .ref (h1 4)) (C := RX6) (T := TX6) (N := 6) hx hb hts iX6 hown hK hP 6 rfl rfl 3 (by decide) (hts _ qfl_X6_22) (fun _ h9 => h9) rfl dX6_copyFrom_46 ?_
  refine lv_iconst (v := 0) hx hb dX6_copyFrom_49 (by decide) ?_
  refine lv_aload_n hx hb dX6_copyFrom_50 rfl (lv_at hl 0 rfl) ?_
  refine va_get (D := D) (ci := 6) (v := .ref (h0 4)) (C := RX6) (T := TX6) (N := 6) hx hb hts iX6 hown hK hP 0 rfl rfl 3 (by decide) (hts _ qfl_X6_22) (fun _ h9 => h9) rfl dX6_copyFrom_51 ?_
  refine lv_iconst (v := 0) hx hb dX6_copyFrom_54 (by decide) ?_
  refine lv_bipush (v := 20) hx hb dX6_copyFrom_55 (by decide) ?_
  refine va_copyi (n := 20) (sp := 0) (dp := 0) (ty := .int) hx hb (hml.trans hl.1.symm) hown (hts _ qma_X6_28) (hts _ qnat_copy) (hts _ qsta_copy) (hts _ qini_sys) hK hP hD hS 10 4 0 0 rfl rfl rfl rfl rfl (by decide) (by decide) (by decide) (by decide) (by decide) (fun _ _ => rfl) (by rw [← erm]; exact Nat.le_of_ble_eq_true rfl) (by rw [← erm]; exact Nat.le_of_ble_eq_true rfl) dX6_copyFrom_57 (fun H locs hP hD hS => ?_)
  obtain ⟨g4, eg4⟩ : ∃ y : Nat → Int32, y = va_cpy s1.2.2.2.1 s0.2.2.2.1 0 0 20 := ⟨_, rfl⟩
  have h := x_let h eg4
  have hP : va_P D vwCl (JouW cA h0 ((Jous3 (Jous2 (Jous1 (Jous0 s0 g1) g2) g3) g4)) ++ JouW cA h1 s1) H := by rw [eg4]; exact hP
  have hD : va_D A (JouW cA h0 ((Jous3 (Jous2 (Jous1 (Jous0 s0 g1) g2) g3) g4)) ++ JouW cA h1 s1) := by rw [eg4]; exact hD
  refine lv_aload_n hx hb dX6_copyFrom_60 rfl (lv_at hl 1 rfl) ?_
  refine va_get (D := D) (ci := 6) (v := .ref (h1 5)) (C := RX6) (T := TX6) (N := 6) hx hb hts iX6 hown hK hP 6 rfl rfl 4 (by decide) (hts _ qfl_X6_25) (fun _ h9 => h9) rfl dX6_copyFrom_61 ?_
  refine lv_iconst (v := 0) hx hb dX6_copyFrom_64 (by decide) ?_
  refine lv_aload_n hx hb dX6_copyFrom_65 rfl (lv_at hl 0 rfl) ?_
  refine va_get (D := D) (ci := 6) (v := .ref (h0 5)) (C := RX6) (T := TX6) (N := 6) hx hb hts iX6 hown hK hP 0 rfl rfl 4 (by decide) (hts _ qfl_X6_25) (fun _ h9 => h9) rfl dX6_copyFrom_66 ?_
  refine lv_iconst (v := 0) hx hb dX6_copyFrom_69 (by decide) ?_
  refine lv_bipush (v := 20) hx hb dX6_copyFrom_70 (by decide) ?_
  refine va_copyi (n := 20) (sp := 0) (dp := 0) (ty := .int) hx hb (hml.trans hl.1.symm) hown (hts _ qma_X6_28) (hts _ qnat_copy) (hts _ qsta_copy) (hts _ qini_sys) hK hP hD hS 11 5 0 0 rfl rfl rfl rfl rfl (by decide) (by decide) (by decide) (by decide) (by decide) (fun _ _ => rfl) (by rw [← erm]; exact Nat.le_of_ble_eq_true rfl) (by rw [← erm]; exact Nat.le_of_ble_eq_true rfl) dX6_copyFrom_72 (fun H locs hP hD hS => ?_)
  obtain ⟨g5, eg5⟩ : ∃ y : Nat → Int32, y = va_cpy s1.2.2.2.2.1 s0.2.2.2.2.1 0 0 20 := ⟨_, rfl⟩
  have h := x_let h eg5
  have hP : va_P D vwCl (JouW cA h0 ((Jous4 (Jous3 (Jous2 (Jous1 (Jous0 s0 g1) g2) g3) g4) g5)) ++ JouW cA h1 s1) H := by rw [eg5]; exact hP
  have hD : va_D A (JouW cA h0 ((Jous4 (Jous3 (Jous2 (Jous1 (Jous0 s0 g1) g2) g3) g4) g5)) ++ JouW cA h1 s1) := by rw [eg5]; exact hD
  refine lv_aload_n hx hb dX6_copyFrom_75 rfl (lv_at hl 0 rfl) ?_
  refine lv_aload_n hx hb dX6_copyFrom_76 rfl (lv_at hl 1 rfl) ?_
  refine va_get (D := D) (ci := 6) (v := .int s1.2.2.2.2.2) (C := RX6) (T := TX6) (N := 6) hx hb hts iX6 hown hK hP 6 rfl rfl 5 (by decide) (hts _ qfl_X6_34) (fun _ h9 => h9) rfl dX6_copyFrom_77 ?_
  refine va_put (D := D) (ci := 6) (v := .int s1.2.2.2.2.2) (ty := .int) (C := RX6) (T := TX6) (N := 6) hx hb hts iX6 tyX6 tyX6_ok nmX6 hown hK hP hD hS 0 rfl rfl 5 (by decide) (hts _ qfl_X6_34) (fun _ h9 => h9) rfl (by decide +kernel) rfl rfl (Nat.le_of_ble_eq_true rfl) dX6_copyFrom_80 (fun H locs hP hD hS => ?_)
  have hP : va_P D vwCl (JouW cA h0 ((Jous4 (Jous3 (Jous2 (Jous1 (Jous0 s1 g1) g2) g3) g4) g5)) ++ JouW cA h1 s1) H := hP
  have hD : va_D A (JouW cA h0 ((Jous4 (Jous3 (Jous2 (Jous1 (Jous0 s1 g1) g2) g3) g4) g5)) ++ JouW cA h1 s1) := hD
  have h := Option.some.inj h
  subst h
  exact xVret hx hb hr hlocks hP hK hD hS dX6_copyFrom_83
def fX6_keptCount (N : Nat)  (s0 : JouS) : Option (Int32) :=
  xcall (fJ9_min_7cf53 N s0.2.2.2.2.2 20) fun q1 =>
  some q1
set_option maxRecDepth 100000 in
set_option maxHeartbeats 4000000 in
theorem kX6_keptCount (l : Launch) (D : va_G) (cA : Nat → ClassId) (ad : Nat → Nat) (h0 : Nat → Nat) (sz N : Nat)  (s0 : JouS) (q : Int32) (h : fX6_keptCount N s0 = some q) : zM l yX6_keptCount cX6_keptCount 1 (some .int) ({ frames := 1, cells := 0, slots := 0, locals := 21 }) D cA ad (JouW cA h0 s0) sz [.ref (h0 0)] (some (.int q)) (JouW cA h0 s0) := by
  generalize erm : ({ frames := 1, cells := 0, slots := 0, locals := 21 } : Room) = rm
  refine zMet (by decide) (Nat.le_of_ble_eq_true rfl) ?_
  intro p e s m below meth c hx hb hr hlocks hml hts hown hin hK hP A eA hD hS hA hsz hN hE ls hl
  have hl : lv_has ls 1 [(0, .ref (h0 0))] := hl
  clear eA
  rw [fX6_keptCount] at h
  refine lv_aload_n hx hb dX6_keptCount_0 rfl (lv_at hl 0 rfl) ?_
  refine va_get (D := D) (ci := 6) (v := .int s0.2.2.2.2.2) (C := RX6) (T := TX6) (N := 6) hx hb hts iX6 hown hK hP 0 rfl rfl 5 (by decide) (hts _ qfl_X6_34) (fun _ h9 => h9) rfl dX6_keptCount_1 ?_
  refine lv_bipush (v := 20) hx hb dX6_keptCount_4 (by decide) ?_
  obtain ⟨q1, c1, h⟩ := x_call h
  refine xCall (w2 := JouW cA h0 s0) (xRunS (n := 2) (As := [.int s0.2.2.2.2.2, .int 20]) (rest := []) ⟨hx, hb, hml, hown, hts⟩ (kJ9_min_7cf53 l D cA  _ N s0.2.2.2.2.2 20 q1 c1) qco_J9_min_7cf53 qml_X6_38 qst_J9_min_7cf53 qini_J9 (by decide +kernel) (by rw [← erm]; rfl) hK hP hD [] rfl rfl rfl rfl hl.1 rfl (lv_room (Nat.le_of_ble_eq_true rfl)) dX6_keptCount_6 ⟨Nat.zero_le _, Nat.zero_le _⟩) hP hD hS hA [] [0, 1, 2, 3, 4, 5] [0, 1, 2, 3, 4, 5] rfl (wr := [(h0 0, .inr (6, [.ref (h0 1), .ref (h0 2), .ref (h0 3), .ref (h0 4), .ref (h0 5), .int (s0.2.2.2.2.2)])), (h0 1, .inl (cA 0, 20, .inl (s0.1))), (h0 2, .inl (cA 0, 20, .inl (s0.2.1))), (h0 3, .inl (cA 2, 20, .inr (.inl (s0.2.2.1)))), (h0 4, .inl (cA 0, 20, .inl (s0.2.2.2.1))), (h0 5, .inl (cA 0, 20, .inl (s0.2.2.2.2.1)))]) rfl rfl rfl rfl rfl (fun H locs hP hD hS => ?_)
  have h := Option.some.inj h
  subst h
  exact xIret hx hb hr hlocks hP hK hD hS dX6_keptCount_9
def fX6_idAt (N : Nat) (a1 : Int32) (s0 : JouS) : Option (Int32) :=
  xcall (fX6_keptCount N s0) fun q1 =>
  some ((s0.2.2.2.2.2 - q1) + a1)
set_option maxRecDepth 100000 in
set_option maxHeartbeats 4000000 in
theorem kX6_idAt (l : Launch) (D : va_G) (cA : Nat → ClassId) (ad : Nat → Nat) (h0 : Nat → Nat) (sz N : Nat) (a1 : Int32) (s0 : JouS) (q : Int32) (h : fX6_idAt N a1 s0 = some q) : zM l yX6_idAt cX6_idAt 2 (some .int) ({ frames := 2, cells := 0, slots := 0, locals := 41 }) D cA ad (JouW cA h0 s0) sz [.ref (h0 0), .int a1] (some (.int q)) (JouW cA h0 s0) := by
  generalize erm : ({ frames := 2, cells := 0, slots := 0, locals := 41 } : Room) = rm
  refine zMet (by decide) (Nat.le_of_ble_eq_true rfl) ?_
  intro p e s m below meth c hx hb hr hlocks hml hts hown hin hK hP A eA hD hS hA hsz hN hE ls hl
  have hl : lv_has ls 2 [(0, .ref (h0 0)), (1, .int a1)] := hl
  clear eA
  rw [fX6_idAt] at h
  refine lv_aload_n hx hb dX6_idAt_0 rfl (lv_at hl 0 rfl) ?_
  refine va_get (D := D) (ci := 6) (v := .int s0.2.2.2.2.2) (C := RX6) (T := TX6) (N := 6) hx hb hts iX6 hown hK hP 0 rfl rfl 5 (by decide) (hts _ qfl_X6_34) (fun _ h9 => h9) rfl dX6_idAt_1 ?_
  refine lv_aload_n hx hb dX6_idAt_4 rfl (lv_at hl 0 rfl) ?_
  obtain ⟨q1, c1, h⟩ := x_call h
  refine xCall (w2 := JouW cA h0 s0) (zRunV (n := 0) (As := []) (rest := [.int s0.2.2.2.2.2]) ⟨hx, hb, hml, hown, hts⟩ (kX6_keptCount l D cA ad h0 _ N s0 q1 c1) qco_X6_keptCount qml_X6_44 qin_X6_keptCount qse_X6_keptCount qini_X6 (by decide +kernel) (by rw [← erm]; rfl) hN hE hS hA hK hP hD [0, 1, 2, 3, 4, 5] rfl rfl (q0 := 0) rfl rfl rfl rfl rfl hl.1 rfl (lv_room (Nat.le_of_ble_eq_true rfl)) dX6_idAt_5 ⟨Nat.zero_le _, Nat.zero_le _⟩) hP hD hS hA [0, 1, 2, 3, 4, 5] [] [0, 1, 2, 3, 4, 5] rfl (wr := []) rfl rfl rfl rfl rfl (fun H locs hP hD hS => ?_)
  refine lv_isub hx hb dX6_idAt_8 ?_
  refine lv_iload_n hx hb dX6_idAt_9 rfl (lv_at hl 1 rfl) ?_
  refine lv_iadd hx hb dX6_idAt_10 ?_
  have h := Option.some.inj h
  subst h
  exact xIret hx hb hr hlocks hP hK hD hS dX6_idAt_11
def fX6_has (N : Nat) (a1 : Int32) (s0 : JouS) : Option (Int32) :=
  xcall (fX6_keptCount N s0) fun q1 =>
  xcall (fX12_isWithin N a1 (s0.2.2.2.2.2 - q1) (s0.2.2.2.2.2 - 1)) fun q2 =>
  xnz (xnar .boolean q2) <|
  some q2
set_option maxRecDepth 100000 in
set_option maxHeartbeats 4000000 in
theorem kX6_has (l : Launch) (D : va_G) (cA : Nat → ClassId) (ad : Nat → Nat) (h0 : Nat → Nat) (sz N : Nat) (a1 : Int32) (s0 : JouS) (q : Int32) (h : fX6_has N a1 s0 = some q) : zM l yX6_has cX6_has 2 (some .boolean) ({ frames := 2, cells := 0, slots := 0, locals := 41 }) D cA ad (JouW cA h0 s0) sz [.ref (h0 0), .int a1] (some (.int q)) (JouW cA h0 s0) := by
  generalize erm : ({ frames := 2, cells := 0, slots := 0, locals := 41 } : Room) = rm
  refine zMet (by decide) (Nat.le_of_ble_eq_true rfl) ?_
  intro p e s m below meth c hx hb hr hlocks hml hts hown hin hK hP A eA hD hS hA hsz hN hE ls hl
  have hl : lv_has ls 2 [(0, .ref (h0 0)), (1, .int a1)] := hl
  clear eA
  rw [fX6_has] at h
  refine lv_iload_n hx hb dX6_has_0 rfl (lv_at hl 1 rfl) ?_
  refine lv_aload_n hx hb dX6_has_1 rfl (lv_at hl 0 rfl) ?_
  refine va_get (D := D) (ci := 6) (v := .int s0.2.2.2.2.2) (C := RX6) (T := TX6) (N := 6) hx hb hts iX6 hown hK hP 0 rfl rfl 5 (by decide) (hts _ qfl_X6_34) (fun _ h9 => h9) rfl dX6_has_2 ?_
  refine lv_aload_n hx hb dX6_has_5 rfl (lv_at hl 0 rfl) ?_
  obtain ⟨q1, c1, h⟩ := x_call h
  refine xCall (w2 := JouW cA h0 s0) (zRunV (n := 0) (As := []) (rest := [.int s0.2.2.2.2.2, .int a1]) ⟨hx, hb, hml, hown, hts⟩ (kX6_keptCount l D cA ad h0 _ N s0 q1 c1) qco_X6_keptCount qml_X6_44 qin_X6_keptCount qse_X6_keptCount qini_X6 (by decide +kernel) (by rw [← erm]; rfl) hN hE hS hA hK hP hD [0, 1, 2, 3, 4, 5] rfl rfl (q0 := 0) rfl rfl rfl rfl rfl hl.1 rfl (lv_room (Nat.le_of_ble_eq_true rfl)) dX6_has_6 ⟨Nat.zero_le _, Nat.zero_le _⟩) hP hD hS hA [0, 1, 2, 3, 4, 5] [] [0, 1, 2, 3, 4, 5] rfl (wr := []) rfl rfl rfl rfl rfl (fun H locs hP hD hS => ?_)
  refine lv_isub hx hb dX6_has_9 ?_
  refine lv_aload_n hx hb dX6_has_10 rfl (lv_at hl 0 rfl) ?_
  refine va_get (D := D) (ci := 6) (v := .int s0.2.2.2.2.2) (C := RX6) (T := TX6) (N := 6) hx hb hts iX6 hown hK hP 0 rfl rfl 5 (by decide) (hts _ qfl_X6_34) (fun _ h9 => h9) rfl dX6_has_11 ?_
  refine lv_iconst (v := 1) hx hb dX6_has_14 (by decide) ?_
  refine lv_isub hx hb dX6_has_15 ?_
  obtain ⟨q2, c2, h⟩ := x_call h
  refine xCall (w2 := JouW cA h0 s0) (xRunSN (n := 3) (As := [.int a1, .int (s0.2.2.2.2.2 - q1), .int (s0.2.2.2.2.2 - 1)]) (rest := []) ⟨hx, hb, hml, hown, hts⟩ (kX12_isWithin l D cA  _ N a1 (s0.2.2.2.2.2 - q1) (s0.2.2.2.2.2 - 1) q2 c2) qco_X12_isWithin hN qmn_X6_48 qst_X12_isWithin qini_X12 (by decide +kernel) (by rw [← erm]; rfl) hK rfl rfl hl.1 rfl (lv_room (Nat.le_of_ble_eq_true rfl)) dX6_has_16 ⟨Nat.zero_le _, Nat.zero_le _⟩) hP hD hS hA [] [0, 1, 2, 3, 4, 5] [0, 1, 2, 3, 4, 5] rfl (wr := [(h0 0, .inr (6, [.ref (h0 1), .ref (h0 2), .ref (h0 3), .ref (h0 4), .ref (h0 5), .int (s0.2.2.2.2.2)])), (h0 1, .inl (cA 0, 20, .inl (s0.1))), (h0 2, .inl (cA 0, 20, .inl (s0.2.1))), (h0 3, .inl (cA 2, 20, .inr (.inl (s0.2.2.1)))), (h0 4, .inl (cA 0, 20, .inl (s0.2.2.2.1))), (h0 5, .inl (cA 0, 20, .inl (s0.2.2.2.2.1)))]) rfl rfl rfl rfl rfl (fun H locs hP hD hS => ?_)
  obtain ⟨z3, h⟩ := x_nz h
  have h := Option.some.inj h
  subst h
  exact xZret hx hb hr hlocks (xnar_n z3) hP hK hD hS dX6_has_19
def fX6_rowOf (N : Nat) (a0 : Int32)  : Option (Int32) :=
  xlet (a0 - a0 / 20 * 20) fun x1 =>
  xjoin (fun (t0_2 : Int32) =>
      some t0_2
    ) fun J17 =>
  if 0 ≤ x1 then
    J17 x1
  else
    J17 (x1 + 20)
set_option maxRecDepth 100000 in
set_option maxHeartbeats 4000000 in
theorem kX6_rowOf (l : Launch) (D : va_G) (cA : Nat → ClassId) (ad : Nat → Nat)  (sz N : Nat) (a0 : Int32)  (q : Int32) (h : fX6_rowOf N a0 = some q) : zM l yX6_rowOf cX6_rowOf 2 (some .int) ({ frames := 0, cells := 0, slots := 0, locals := 0 }) D cA ad (([] : va_W)) sz [.int a0] (some (.int q)) (([] : va_W)) := by
  generalize erm : ({ frames := 0, cells := 0, slots := 0, locals := 0 } : Room) = rm
  refine zMet (by decide) (Nat.le_of_ble_eq_true rfl) ?_
  intro p e s m below meth c hx hb hr hlocks hml hts hown hin hK hP A eA hD hS hA hsz hN hE ls hl
  have hl : lv_has ls 2 [(0, .int a0)] := hl
  clear eA
  rw [fX6_rowOf] at h
  refine lv_iload_n hx hb dX6_rowOf_0 rfl (lv_at hl 0 rfl) ?_
  refine lv_bipush (v := 20) hx hb dX6_rowOf_1 (by decide) ?_
  refine lv_irem hx hb dX6_rowOf_3 (by decide) ?_
  refine lv_topi (fun x1 ex1 => ?_)
  have h := x_let h ex1
  refine lv_istore_n (lv' := [(1, .int x1), (0, .int a0)]) hx hb dX6_rowOf_4 rfl hl (by decide) rfl (fun ls hl => ?_)
  refine lv_iload_n hx hb dX6_rowOf_5 rfl (lv_at hl 0 rfl) ?_
  obtain ⟨J17, eJ17, h⟩ := x_join h
  have hJ_J17 : ∀ (t0_2 : Int32) (H : Heap) (locs : List Loc), va_P D vwCl (([] : va_W)) H → va_D A (([] : va_W)) → va_S A s.heap H locs → ∀ ls : Array Slot, lv_has ls 2 [] → J17 t0_2 = some q → W p l e rm s m ([.int a0] : List Value).toArray below meth c H locs 0 0 (MQ below (xQ D cA A (([] : va_W)) (some (.int q))) ([.int a0] : List Value).toArray s 0 0 A) (F0 m 17 ls [.int t0_2]) := by
    clear h hP hD hS hl
    intro t0_2 H locs hP hD hS ls hl h
    rw [eJ17] at h
    have h := Option.some.inj h
    subst h
    exact xIret hx hb hr hlocks hP hK hD hS dX6_rowOf_17
  refine lv_if_ge (tgt := 16) hx hb dX6_rowOf_6 (by decide) (fun c3 => ?_) (fun c3 => ?_)
  · have h := x_t h c3
    refine lv_iload_n hx hb dX6_rowOf_16 rfl (lv_at hl 0 rfl) ?_
    exact hJ_J17 x1 _ _ hP hD hS _ (lv_sub hl [] rfl) h
  · have h := x_f h c3
    refine lv_iload_n hx hb dX6_rowOf_9 rfl (lv_at hl 0 rfl) ?_
    refine lv_bipush (v := 20) hx hb dX6_rowOf_10 (by decide) ?_
    refine lv_iadd hx hb dX6_rowOf_12 ?_
    refine lv_goto (tgt := 17) hx hb dX6_rowOf_13 (by decide) ?_
    exact hJ_J17 (x1 + 20) _ _ hP hD hS _ (lv_sub hl [] rfl) h
def fX6_faultOfReversal (N : Nat) (a1 : Int32) (s0 : JouS) : Option (Nat) :=
  xcall (fX6_has N a1 s0) fun q1 =>
  if q1 = 0 then
    some 2
  else
    xcall (fX6_rowOf N a1) fun q3 =>
    xrd 20 q3 fun k4 =>
    xjoin (fun (t0_5 : Nat) =>
        some t0_5
      ) fun J33 =>
    if (s0.2.2.2.2.1 k4) = 0 then
      J33 0
    else
      J33 4
set_option maxRecDepth 100000 in
set_option maxHeartbeats 4000000 in
theorem kX6_faultOfReversal (l : Launch) (D : va_G) (cA : Nat → ClassId) (ad : Nat → Nat) (h0 : Nat → Nat) (sz N : Nat) (a1 : Int32) (s0 : JouS) (q : Nat) (h : fX6_faultOfReversal N a1 s0 = some q) : zM l yX6_faultOfReversal cX6_faultOfReversal 2 (some (.object "TheatreLedger$Fault")) ({ frames := 3, cells := 0, slots := 0, locals := 62 }) D cA ad (JouW cA h0 s0) sz [.ref (h0 0), .int a1] (some (.ref (ad q))) (JouW cA h0 s0) := by
  generalize erm : ({ frames := 3, cells := 0, slots := 0, locals := 62 } : Room) = rm
  refine zMet (by decide) (Nat.le_of_ble_eq_true rfl) ?_
  intro p e s m below meth c hx hb hr hlocks hml hts hown hin hK hP A eA hD hS hA hsz hN hE ls hl
  have hl : lv_has ls 2 [(0, .ref (h0 0)), (1, .int a1)] := hl
  clear eA
  rw [fX6_faultOfReversal] at h
  refine lv_aload_n hx hb dX6_faultOfReversal_0 rfl (lv_at hl 0 rfl) ?_
  refine lv_iload_n hx hb dX6_faultOfReversal_1 rfl (lv_at hl 1 rfl) ?_
  obtain ⟨q1, c1, h⟩ := x_call h
  refine xCall (w2 := JouW cA h0 s0) (zRunV (n := 1) (As := [.int a1]) (rest := []) ⟨hx, hb, hml, hown, hts⟩ (kX6_has l D cA ad h0 _ N a1 s0 q1 c1) qco_X6_has qml_X6_52 qin_X6_has qse_X6_has qini_X6 (by decide +kernel) (by rw [← erm]; rfl) hN hE hS hA hK hP hD [0, 1, 2, 3, 4, 5] rfl rfl (q0 := 0) rfl rfl rfl rfl rfl hl.1 rfl (lv_room (Nat.le_of_ble_eq_true rfl)) dX6_faultOfReversal_2 ⟨Nat.zero_le _, Nat.zero_le _⟩) hP hD hS hA [0, 1, 2, 3, 4, 5] [] [0, 1, 2, 3, 4, 5] rfl (wr := []) rfl rfl rfl rfl rfl (fun H locs hP hD hS => ?_)
  refine lv_if_ne (tgt := 12) hx hb dX6_faultOfReversal_5 (by decide) (fun c2 => ?_) (fun c2 => ?_)
  · have h := x_f h c2
    refine lv_aload_n hx hb dX6_faultOfReversal_12 rfl (lv_at hl 0 rfl) ?_
    refine va_get (D := D) (ci := 6) (v := .ref (h0 5)) (C := RX6) (T := TX6) (N := 6) hx hb hts iX6 hown hK hP 0 rfl rfl 4 (by decide) (hts _ qfl_X6_25) (fun _ h9 => h9) rfl dX6_faultOfReversal_13 ?_
    refine lv_iload_n hx hb dX6_faultOfReversal_16 rfl (lv_at hl 1 rfl) ?_
    obtain ⟨q3, c3, h⟩ := x_call h
    refine xCall (w2 := JouW cA h0 s0) (zRunS (n := 1) (As := [.int a1]) (rest := [.ref (h0 5)]) ⟨hx, hb, hml, hown, hts⟩ (kX6_rowOf l D cA ad  _ N a1 q3 c3) qco_X6_rowOf qml_X6_62 qst_X6_rowOf qini_X6 (by decide +kernel) (by rw [← erm]; rfl) hN hE hS hA hK hP hD [] rfl rfl rfl rfl hl.1 rfl (lv_room (Nat.le_of_ble_eq_true rfl)) dX6_faultOfReversal_17 ⟨Nat.zero_le _, Nat.zero_le _⟩) hP hD hS hA [] [0, 1, 2, 3, 4, 5] [0, 1, 2, 3, 4, 5] rfl (wr := [(h0 0, .inr (6, [.ref (h0 1), .ref (h0 2), .ref (h0 3), .ref (h0 4), .ref (h0 5), .int (s0.2.2.2.2.2)])), (h0 1, .inl (cA 0, 20, .inl (s0.1))), (h0 2, .inl (cA 0, 20, .inl (s0.2.1))), (h0 3, .inl (cA 2, 20, .inr (.inl (s0.2.2.1)))), (h0 4, .inl (cA 0, 20, .inl (s0.2.2.2.1))), (h0 5, .inl (cA 0, 20, .inl (s0.2.2.2.2.1)))]) rfl rfl rfl rfl rfl (fun H locs hP hD hS => ?_)
    obtain ⟨k4, hk4, h⟩ := x_rd h
    refine xIald hx hb hK hP 5 0 rfl rfl hk4 dX6_faultOfReversal_20 ?_
    obtain ⟨J33, eJ33, h⟩ := x_join h
    have hJ_J33 : ∀ (t0_5 : Nat) (H : Heap) (locs : List Loc), va_P D vwCl (JouW cA h0 s0) H → va_D A (JouW cA h0 s0) → va_S A s.heap H locs → ∀ ls : Array Slot, lv_has ls 2 [] → J33 t0_5 = some q → W p l e rm s m ([.ref (h0 0), .int a1] : List Value).toArray below meth c H locs 0 0 (MQ below (xQ D cA A (JouW cA h0 s0) (some (.ref (ad q)))) ([.ref (h0 0), .int a1] : List Value).toArray s 0 0 A) (F0 m 33 ls [.ref (ad t0_5)]) := by
      clear h hP hD hS hl
      intro t0_5 H locs hP hD hS ls hl h
      rw [eJ33] at h
      have h := Option.some.inj h
      subst h
      exact zAret (a := ad t0_5) hx hb hr hlocks hP hK hD hS dX6_faultOfReversal_33
    refine lv_if_ne (tgt := 30) hx hb dX6_faultOfReversal_21 (by decide) (fun c6 => ?_) (fun c6 => ?_)
    · have h := x_f h c6
      refine va_gets hx hb (xE.f4 hE) hS hown (hts _ qfl_X6_69) (fun _ h9 => h9) dX6_faultOfReversal_30 ?_
      exact hJ_J33 4 _ _ hP hD hS _ (lv_sub hl [] rfl) h
    · have h := x_t h c6
      refine va_gets hx hb (xE.f0 hE) hS hown (hts _ qfl_X6_66) (fun _ h9 => h9) dX6_faultOfReversal_24 ?_
      refine lv_goto (tgt := 33) hx hb dX6_faultOfReversal_27 (by decide) ?_
      exact hJ_J33 0 _ _ hP hD hS _ (lv_sub hl [] rfl) h
  · have h := x_t h c2
    refine va_gets hx hb (xE.f2 hE) hS hown (hts _ qfl_X6_56) (fun _ h9 => h9) dX6_faultOfReversal_8 ?_
    have h := Option.some.inj h
    subst h
    exact zAret (a := ad 2) hx hb hr hlocks hP hK hD hS dX6_faultOfReversal_11
def fX6_add (N : Nat) (a1 : Int32) (a2 : Int32) (a3 : Int64) (a5 : Int32) (s0 : JouS) : Option (Int32 × JouS) :=
  xcall (fX6_rowOf N s0.2.2.2.2.2) fun q1 =>
  xrd 20 q1 fun k2 =>
  xlet (upd s0.1 k2 a1) fun g3 =>
  xrd 20 q1 fun k4 =>
  xlet (upd s0.2.1 k4 a2) fun g5 =>
  xrd 20 q1 fun k6 =>
  xlet (vp_updL s0.2.2.1 k6 a3) fun g7 =>
  xrd 20 q1 fun k8 =>
  xlet (upd s0.2.2.2.1 k8 a5) fun g9 =>
  xrd 20 q1 fun k10 =>
  xlet (upd s0.2.2.2.2.1 k10 0) fun g11 =>
  xlet (s0.2.2.2.2.2 + 1) fun x12 =>
  some (x12 - 1, (g3, g5, g7, g9, g11, x12))
set_option maxRecDepth 100000 in
set_option maxHeartbeats 4000000 in
theorem kX6_add (l : Launch) (D : va_G) (cA : Nat → ClassId) (ad : Nat → Nat) (h0 : Nat → Nat) (sz N : Nat) (a1 : Int32) (a2 : Int32) (a3 : Int64) (a5 : Int32) (s0 : JouS) (q : Int32 × JouS) (h : fX6_add N a1 a2 a3 a5 s0 = some q) : zM l yX6_add cX6_add 7 (some .int) ({ frames := 1, cells := 0, slots := 0, locals := 21 }) D cA ad (JouW cA h0 s0) sz [.ref (h0 0), .int a1, .int a2, .long a3, .int a5] (some (.int q.1)) (JouW cA h0 q.2) := by
  generalize erm : ({ frames := 1, cells := 0, slots := 0, locals := 21 } : Room) = rm
  refine zMet (by decide) (Nat.le_of_ble_eq_true rfl) ?_
  intro p e s m below meth c hx hb hr hlocks hml hts hown hin hK hP A eA hD hS hA hsz hN hE ls hl
  have hl : lv_has ls 7 [(0, .ref (h0 0)), (1, .int a1), (2, .int a2), (3, .long a3), (5, .int a5)] := hl
  clear eA
  rw [fX6_add] at h
  refine lv_aload_n hx hb dX6_add_0 rfl (lv_at hl 0 rfl) ?_
  refine va_get (D := D) (ci := 6) (v := .int s0.2.2.2.2.2) (C := RX6) (T := TX6) (N := 6) hx hb hts iX6 hown hK hP 0 rfl rfl 5 (by decide) (hts _ qfl_X6_34) (fun _ h9 => h9) rfl dX6_add_1 ?_
  obtain ⟨q1, c1, h⟩ := x_call h
  refine xCall (w2 := JouW cA h0 s0) (zRunS (n := 1) (As := [.int s0.2.2.2.2.2]) (rest := []) ⟨hx, hb, hml, hown, hts⟩ (kX6_rowOf l D cA ad  _ N s0.2.2.2.2.2 q1 c1) qco_X6_rowOf qml_X6_62 qst_X6_rowOf qini_X6 (by decide +kernel) (by rw [← erm]; rfl) hN hE hS hA hK hP hD [] rfl rfl rfl rfl hl.1 rfl (lv_room (Nat.le_of_ble_eq_true rfl)) dX6_add_4 ⟨Nat.zero_le _, Nat.zero_le _⟩) hP hD hS hA [] [0, 1, 2, 3, 4, 5] [0, 1, 2, 3, 4, 5] rfl (wr := [(h0 0, .inr (6, [.ref (h0 1), .ref (h0 2), .ref (h0 3), .ref (h0 4), .ref (h0 5), .int (s0.2.2.2.2.2)])), (h0 1, .inl (cA 0, 20, .inl (s0.1))), (h0 2, .inl (cA 0, 20, .inl (s0.2.1))), (h0 3, .inl (cA 2, 20, .inr (.inl (s0.2.2.1)))), (h0 4, .inl (cA 0, 20, .inl (s0.2.2.2.1))), (h0 5, .inl (cA 0, 20, .inl (s0.2.2.2.2.1)))]) rfl rfl rfl rfl rfl (fun H locs hP hD hS => ?_)
  refine lv_istore (lv' := [(6, .int q1), (0, .ref (h0 0)), (1, .int a1), (2, .int a2), (3, .long a3), (5, .int a5)]) hx hb dX6_add_7 hl (by decide) rfl (fun ls hl => ?_)
  refine lv_aload_n hx hb dX6_add_9 rfl (lv_at hl 1 rfl) ?_
  refine va_get (D := D) (ci := 6) (v := .ref (h0 1)) (C := RX6) (T := TX6) (N := 6) hx hb hts iX6 hown hK hP 0 rfl rfl 0 (by decide) (hts _ qfl_X6_9) (fun _ h9 => h9) rfl dX6_add_10 ?_
  refine lv_iload hx hb dX6_add_13 (lv_at hl 0 rfl) ?_
  refine lv_iload_n hx hb dX6_add_15 rfl (lv_at hl 2 rfl) ?_
  obtain ⟨k2, hk2, h⟩ := x_rd h
  refine xIast (w2 := fun zz => JouW cA h0 ((Jous0 s0 zz))) hx hb hK hP hD hS 1 0 rfl rfl hk2 (fun _ => rfl) dX6_add_16 (fun g3 eg3 H locs hP hD hS => ?_)
  have h := x_let h eg3
  have hP : va_P D vwCl (JouW cA h0 ((Jous0 s0 g3))) H := hP
  have hD : va_D A (JouW cA h0 ((Jous0 s0 g3))) := hD
  refine lv_aload_n hx hb dX6_add_17 rfl (lv_at hl 1 rfl) ?_
  refine va_get (D := D) (ci := 6) (v := .ref (h0 2)) (C := RX6) (T := TX6) (N := 6) hx hb hts iX6 hown hK hP 0 rfl rfl 1 (by decide) (hts _ qfl_X6_15) (fun _ h9 => h9) rfl dX6_add_18 ?_
  refine lv_iload hx hb dX6_add_21 (lv_at hl 0 rfl) ?_
  refine lv_iload_n hx hb dX6_add_23 rfl (lv_at hl 3 rfl) ?_
  obtain ⟨k4, hk4, h⟩ := x_rd h
  refine xIast (w2 := fun zz => JouW cA h0 ((Jous1 (Jous0 s0 g3) zz))) hx hb hK hP hD hS 2 0 rfl rfl hk4 (fun _ => rfl) dX6_add_24 (fun g5 eg5 H locs hP hD hS => ?_)
  have h := x_let h eg5
  have hP : va_P D vwCl (JouW cA h0 ((Jous1 (Jous0 s0 g3) g5))) H := hP
  have hD : va_D A (JouW cA h0 ((Jous1 (Jous0 s0 g3) g5))) := hD
  refine lv_aload_n hx hb dX6_add_25 rfl (lv_at hl 1 rfl) ?_
  refine va_get (D := D) (ci := 6) (v := .ref (h0 3)) (C := RX6) (T := TX6) (N := 6) hx hb hts iX6 hown hK hP 0 rfl rfl 2 (by decide) (hts _ qfl_X6_18) (fun _ h9 => h9) rfl dX6_add_26 ?_
  refine lv_iload hx hb dX6_add_29 (lv_at hl 0 rfl) ?_
  refine lv_lload_n hx hb dX6_add_31 rfl (lv_at hl 4 rfl) ?_
  obtain ⟨k6, hk6, h⟩ := x_rd h
  refine xLast (w2 := fun zz => JouW cA h0 ((Jous2 (Jous1 (Jous0 s0 g3) g5) zz))) hx hb hK hP hD hS 3 2 rfl rfl hk6 (fun _ => rfl) dX6_add_32 (fun g7 eg7 H locs hP hD hS => ?_)
  have h := x_let h eg7
  have hP : va_P D vwCl (JouW cA h0 ((Jous2 (Jous1 (Jous0 s0 g3) g5) g7))) H := hP
  have hD : va_D A (JouW cA h0 ((Jous2 (Jous1 (Jous0 s0 g3) g5) g7))) := hD
  refine lv_aload_n hx hb dX6_add_33 rfl (lv_at hl 1 rfl) ?_
  refine va_get (D := D) (ci := 6) (v := .ref (h0 4)) (C := RX6) (T := TX6) (N := 6) hx hb hts iX6 hown hK hP 0 rfl rfl 3 (by decide) (hts _ qfl_X6_22) (fun _ h9 => h9) rfl dX6_add_34 ?_
  refine lv_iload hx hb dX6_add_37 (lv_at hl 0 rfl) ?_
  refine lv_iload hx hb dX6_add_39 (lv_at hl 5 rfl) ?_
  obtain ⟨k8, hk8, h⟩ := x_rd h
  refine xIast (w2 := fun zz => JouW cA h0 ((Jous3 (Jous2 (Jous1 (Jous0 s0 g3) g5) g7) zz))) hx hb hK hP hD hS 4 0 rfl rfl hk8 (fun _ => rfl) dX6_add_41 (fun g9 eg9 H locs hP hD hS => ?_)
  have h := x_let h eg9
  have hP : va_P D vwCl (JouW cA h0 ((Jous3 (Jous2 (Jous1 (Jous0 s0 g3) g5) g7) g9))) H := hP
  have hD : va_D A (JouW cA h0 ((Jous3 (Jous2 (Jous1 (Jous0 s0 g3) g5) g7) g9))) := hD
  refine lv_aload_n hx hb dX6_add_42 rfl (lv_at hl 1 rfl) ?_
  refine va_get (D := D) (ci := 6) (v := .ref (h0 5)) (C := RX6) (T := TX6) (N := 6) hx hb hts iX6 hown hK hP 0 rfl rfl 4 (by decide) (hts _ qfl_X6_25) (fun _ h9 => h9) rfl dX6_add_43 ?_
  refine lv_iload hx hb dX6_add_46 (lv_at hl 0 rfl) ?_
  refine lv_iconst (v := 0) hx hb dX6_add_48 (by decide) ?_
  obtain ⟨k10, hk10, h⟩ := x_rd h
  refine xIast (w2 := fun zz => JouW cA h0 ((Jous4 (Jous3 (Jous2 (Jous1 (Jous0 s0 g3) g5) g7) g9) zz))) hx hb hK hP hD hS 5 0 rfl rfl hk10 (fun _ => rfl) dX6_add_49 (fun g11 eg11 H locs hP hD hS => ?_)
  have h := x_let h eg11
  have hP : va_P D vwCl (JouW cA h0 ((Jous4 (Jous3 (Jous2 (Jous1 (Jous0 s0 g3) g5) g7) g9) g11))) H := hP
  have hD : va_D A (JouW cA h0 ((Jous4 (Jous3 (Jous2 (Jous1 (Jous0 s0 g3) g5) g7) g9) g11))) := hD
  refine lv_aload_n hx hb dX6_add_50 rfl (lv_at hl 1 rfl) ?_
  refine lv_dup hx hb dX6_add_51 rfl ?_
  refine va_get (D := D) (ci := 6) (v := .int s0.2.2.2.2.2) (C := RX6) (T := TX6) (N := 6) hx hb hts iX6 hown hK hP 0 rfl rfl 5 (by decide) (hts _ qfl_X6_34) (fun _ h9 => h9) rfl dX6_add_52 ?_
  refine lv_iconst (v := 1) hx hb dX6_add_55 (by decide) ?_
  refine lv_iadd hx hb dX6_add_56 ?_
  refine lv_topi (fun x12 ex12 => ?_)
  have h := x_let h ex12
  refine va_put (D := D) (ci := 6) (v := .int x12) (ty := .int) (C := RX6) (T := TX6) (N := 6) hx hb hts iX6 tyX6 tyX6_ok nmX6 hown hK hP hD hS 0 rfl rfl 5 (by decide) (hts _ qfl_X6_34) (fun _ h9 => h9) rfl (by decide +kernel) rfl rfl (Nat.le_of_ble_eq_true rfl) dX6_add_57 (fun H locs hP hD hS => ?_)
  have hP : va_P D vwCl (JouW cA h0 ((g3, g5, g7, g9, g11, x12))) H := hP
  have hD : va_D A (JouW cA h0 ((g3, g5, g7, g9, g11, x12))) := hD
  refine lv_aload_n hx hb dX6_add_60 rfl (lv_at hl 1 rfl) ?_
  refine va_get (D := D) (ci := 6) (v := .int x12) (C := RX6) (T := TX6) (N := 6) hx hb hts iX6 hown hK hP 0 rfl rfl 5 (by decide) (hts _ qfl_X6_34) (fun _ h9 => h9) rfl dX6_add_61 ?_
  refine lv_iconst (v := 1) hx hb dX6_add_64 (by decide) ?_
  refine lv_isub hx hb dX6_add_65 ?_
  have h := Option.some.inj h
  subst h
  exact xIret hx hb hr hlocks hP hK hD hS dX6_add_66
def fX6_markReversed (N : Nat) (a1 : Int32) (s0 : JouS) : Option (JouS) :=
  xcall (fX6_rowOf N a1) fun q1 =>
  xrd 20 q1 fun k2 =>
  xlet (upd s0.2.2.2.2.1 k2 1) fun g3 =>
  some ((Jous4 s0 g3))
set_option maxRecDepth 100000 in
set_option maxHeartbeats 4000000 in
theorem kX6_markReversed (l : Launch) (D : va_G) (cA : Nat → ClassId) (ad : Nat → Nat) (h0 : Nat → Nat) (sz N : Nat) (a1 : Int32) (s0 : JouS) (q : JouS) (h : fX6_markReversed N a1 s0 = some q) : zM l yX6_markReversed cX6_markReversed 2 none ({ frames := 1, cells := 0, slots := 0, locals := 21 }) D cA ad (JouW cA h0 s0) sz [.ref (h0 0), .int a1] (none) (JouW cA h0 q) := by
  generalize erm : ({ frames := 1, cells := 0, slots := 0, locals := 21 } : Room) = rm
  refine zMet (by decide) (Nat.le_of_ble_eq_true rfl) ?_
  intro p e s m below meth c hx hb hr hlocks hml hts hown hin hK hP A eA hD hS hA hsz hN hE ls hl
  have hl : lv_has ls 2 [(0, .ref (h0 0)), (1, .int a1)] := hl
  clear eA
  rw [fX6_markReversed] at h
  refine lv_aload_n hx hb dX6_markReversed_0 rfl (lv_at hl 0 rfl) ?_
  refine va_get (D := D) (ci := 6) (v := .ref (h0 5)) (C := RX6) (T := TX6) (N := 6) hx hb hts iX6 hown hK hP 0 rfl rfl 4 (by decide) (hts _ qfl_X6_25) (fun _ h9 => h9) rfl dX6_markReversed_1 ?_
  refine lv_iload_n hx hb dX6_markReversed_4 rfl (lv_at hl 1 rfl) ?_
  obtain ⟨q1, c1, h⟩ := x_call h
  refine xCall (w2 := JouW cA h0 s0) (zRunS (n := 1) (As := [.int a1]) (rest := [.ref (h0 5)]) ⟨hx, hb, hml, hown, hts⟩ (kX6_rowOf l D cA ad  _ N a1 q1 c1) qco_X6_rowOf qml_X6_62 qst_X6_rowOf qini_X6 (by decide +kernel) (by rw [← erm]; rfl) hN hE hS hA hK hP hD [] rfl rfl rfl rfl hl.1 rfl (lv_room (Nat.le_of_ble_eq_true rfl)) dX6_markReversed_5 ⟨Nat.zero_le _, Nat.zero_le _⟩) hP hD hS hA [] [0, 1, 2, 3, 4, 5] [0, 1, 2, 3, 4, 5] rfl (wr := [(h0 0, .inr (6, [.ref (h0 1), .ref (h0 2), .ref (h0 3), .ref (h0 4), .ref (h0 5), .int (s0.2.2.2.2.2)])), (h0 1, .inl (cA 0, 20, .inl (s0.1))), (h0 2, .inl (cA 0, 20, .inl (s0.2.1))), (h0 3, .inl (cA 2, 20, .inr (.inl (s0.2.2.1)))), (h0 4, .inl (cA 0, 20, .inl (s0.2.2.2.1))), (h0 5, .inl (cA 0, 20, .inl (s0.2.2.2.2.1)))]) rfl rfl rfl rfl rfl (fun H locs hP hD hS => ?_)
  refine lv_iconst (v := 1) hx hb dX6_markReversed_8 (by decide) ?_
  obtain ⟨k2, hk2, h⟩ := x_rd h
  refine xIast (w2 := fun zz => JouW cA h0 ((Jous4 s0 zz))) hx hb hK hP hD hS 5 0 rfl rfl hk2 (fun _ => rfl) dX6_markReversed_9 (fun g3 eg3 H locs hP hD hS => ?_)
  have h := x_let h eg3
  have hP : va_P D vwCl (JouW cA h0 ((Jous4 s0 g3))) H := hP
  have hD : va_D A (JouW cA h0 ((Jous4 s0 g3))) := hD
  have h := Option.some.inj h
  subst h
  exact xVret hx hb hr hlocks hP hK hD hS dX6_markReversed_10
def fX6_markReversal (N : Nat) (a1 : Int32) (s0 : JouS) : Option (JouS) :=
  xcall (fX6_rowOf N a1) fun q1 =>
  xrd 20 q1 fun k2 =>
  xlet (upd s0.2.2.2.2.1 k2 2) fun g3 =>
  some ((Jous4 s0 g3))
set_option maxRecDepth 100000 in
set_option maxHeartbeats 4000000 in
theorem kX6_markReversal (l : Launch) (D : va_G) (cA : Nat → ClassId) (ad : Nat → Nat) (h0 : Nat → Nat) (sz N : Nat) (a1 : Int32) (s0 : JouS) (q : JouS) (h : fX6_markReversal N a1 s0 = some q) : zM l yX6_markReversal cX6_markReversal 2 none ({ frames := 1, cells := 0, slots := 0, locals := 21 }) D cA ad (JouW cA h0 s0) sz [.ref (h0 0), .int a1] (none) (JouW cA h0 q) := by
  generalize erm : ({ frames := 1, cells := 0, slots := 0, locals := 21 } : Room) = rm
  refine zMet (by decide) (Nat.le_of_ble_eq_true rfl) ?_
  intro p e s m below meth c hx hb hr hlocks hml hts hown hin hK hP A eA hD hS hA hsz hN hE ls hl
  have hl : lv_has ls 2 [(0, .ref (h0 0)), (1, .int a1)] := hl
  clear eA
  rw [fX6_markReversal] at h
  refine lv_aload_n hx hb dX6_markReversal_0 rfl (lv_at hl 0 rfl) ?_
  refine va_get (D := D) (ci := 6) (v := .ref (h0 5)) (C := RX6) (T := TX6) (N := 6) hx hb hts iX6 hown hK hP 0 rfl rfl 4 (by decide) (hts _ qfl_X6_25) (fun _ h9 => h9) rfl dX6_markReversal_1 ?_
  refine lv_iload_n hx hb dX6_markReversal_4 rfl (lv_at hl 1 rfl) ?_
  obtain ⟨q1, c1, h⟩ := x_call h
  refine xCall (w2 := JouW cA h0 s0) (zRunS (n := 1) (As := [.int a1]) (rest := [.ref (h0 5)]) ⟨hx, hb, hml, hown, hts⟩ (kX6_rowOf l D cA ad  _ N a1 q1 c1) qco_X6_rowOf qml_X6_62 qst_X6_rowOf qini_X6 (by decide +kernel) (by rw [← erm]; rfl) hN hE hS hA hK hP hD [] rfl rfl rfl rfl hl.1 rfl (lv_room (Nat.le_of_ble_eq_true rfl)) dX6_markReversal_5 ⟨Nat.zero_le _, Nat.zero_le _⟩) hP hD hS hA [] [0, 1, 2, 3, 4, 5] [0, 1, 2, 3, 4, 5] rfl (wr := [(h0 0, .inr (6, [.ref (h0 1), .ref (h0 2), .ref (h0 3), .ref (h0 4), .ref (h0 5), .int (s0.2.2.2.2.2)])), (h0 1, .inl (cA 0, 20, .inl (s0.1))), (h0 2, .inl (cA 0, 20, .inl (s0.2.1))), (h0 3, .inl (cA 2, 20, .inr (.inl (s0.2.2.1)))), (h0 4, .inl (cA 0, 20, .inl (s0.2.2.2.1))), (h0 5, .inl (cA 0, 20, .inl (s0.2.2.2.2.1)))]) rfl rfl rfl rfl rfl (fun H locs hP hD hS => ?_)
  refine lv_iconst (v := 2) hx hb dX6_markReversal_8 (by decide) ?_
  obtain ⟨k2, hk2, h⟩ := x_rd h
  refine xIast (w2 := fun zz => JouW cA h0 ((Jous4 s0 zz))) hx hb hK hP hD hS 5 0 rfl rfl hk2 (fun _ => rfl) dX6_markReversal_9 (fun g3 eg3 H locs hP hD hS => ?_)
  have h := x_let h eg3
  have hP : va_P D vwCl (JouW cA h0 ((Jous4 s0 g3))) H := hP
  have hD : va_D A (JouW cA h0 ((Jous4 s0 g3))) := hD
  have h := Option.some.inj h
  subst h
  exact xVret hx hb hr hlocks hP hK hD hS dX6_markReversal_10
def fX6_debitedBy (N : Nat) (a1 : Int32) (s0 : JouS) : Option (Int32) :=
  xcall (fX6_rowOf N a1) fun q1 =>
  xrd 20 q1 fun k2 =>
  some (s0.1 k2)
set_option maxRecDepth 100000 in
set_option maxHeartbeats 4000000 in
theorem kX6_debitedBy (l : Launch) (D : va_G) (cA : Nat → ClassId) (ad : Nat → Nat) (h0 : Nat → Nat) (sz N : Nat) (a1 : Int32) (s0 : JouS) (q : Int32) (h : fX6_debitedBy N a1 s0 = some q) : zM l yX6_debitedBy cX6_debitedBy 2 (some .int) ({ frames := 1, cells := 0, slots := 0, locals := 21 }) D cA ad (JouW cA h0 s0) sz [.ref (h0 0), .int a1] (some (.int q)) (JouW cA h0 s0) := by
  generalize erm : ({ frames := 1, cells := 0, slots := 0, locals := 21 } : Room) = rm
  refine zMet (by decide) (Nat.le_of_ble_eq_true rfl) ?_
  intro p e s m below meth c hx hb hr hlocks hml hts hown hin hK hP A eA hD hS hA hsz hN hE ls hl
  have hl : lv_has ls 2 [(0, .ref (h0 0)), (1, .int a1)] := hl
  clear eA
  rw [fX6_debitedBy] at h
  refine lv_aload_n hx hb dX6_debitedBy_0 rfl (lv_at hl 0 rfl) ?_
  refine va_get (D := D) (ci := 6) (v := .ref (h0 1)) (C := RX6) (T := TX6) (N := 6) hx hb hts iX6 hown hK hP 0 rfl rfl 0 (by decide) (hts _ qfl_X6_9) (fun _ h9 => h9) rfl dX6_debitedBy_1 ?_
  refine lv_iload_n hx hb dX6_debitedBy_4 rfl (lv_at hl 1 rfl) ?_
  obtain ⟨q1, c1, h⟩ := x_call h
  refine xCall (w2 := JouW cA h0 s0) (zRunS (n := 1) (As := [.int a1]) (rest := [.ref (h0 1)]) ⟨hx, hb, hml, hown, hts⟩ (kX6_rowOf l D cA ad  _ N a1 q1 c1) qco_X6_rowOf qml_X6_62 qst_X6_rowOf qini_X6 (by decide +kernel) (by rw [← erm]; rfl) hN hE hS hA hK hP hD [] rfl rfl rfl rfl hl.1 rfl (lv_room (Nat.le_of_ble_eq_true rfl)) dX6_debitedBy_5 ⟨Nat.zero_le _, Nat.zero_le _⟩) hP hD hS hA [] [0, 1, 2, 3, 4, 5] [0, 1, 2, 3, 4, 5] rfl (wr := [(h0 0, .inr (6, [.ref (h0 1), .ref (h0 2), .ref (h0 3), .ref (h0 4), .ref (h0 5), .int (s0.2.2.2.2.2)])), (h0 1, .inl (cA 0, 20, .inl (s0.1))), (h0 2, .inl (cA 0, 20, .inl (s0.2.1))), (h0 3, .inl (cA 2, 20, .inr (.inl (s0.2.2.1)))), (h0 4, .inl (cA 0, 20, .inl (s0.2.2.2.1))), (h0 5, .inl (cA 0, 20, .inl (s0.2.2.2.2.1)))]) rfl rfl rfl rfl rfl (fun H locs hP hD hS => ?_)
  obtain ⟨k2, hk2, h⟩ := x_rd h
  refine xIald hx hb hK hP 1 0 rfl rfl hk2 dX6_debitedBy_8 ?_
  have h := Option.some.inj h
  subst h
  exact xIret hx hb hr hlocks hP hK hD hS dX6_debitedBy_9
def fX6_creditedBy (N : Nat) (a1 : Int32) (s0 : JouS) : Option (Int32) :=
  xcall (fX6_rowOf N a1) fun q1 =>
  xrd 20 q1 fun k2 =>
  some (s0.2.1 k2)
set_option maxRecDepth 100000 in
set_option maxHeartbeats 4000000 in
theorem kX6_creditedBy (l : Launch) (D : va_G) (cA : Nat → ClassId) (ad : Nat → Nat) (h0 : Nat → Nat) (sz N : Nat) (a1 : Int32) (s0 : JouS) (q : Int32) (h : fX6_creditedBy N a1 s0 = some q) : zM l yX6_creditedBy cX6_creditedBy 2 (some .int) ({ frames := 1, cells := 0, slots := 0, locals := 21 }) D cA ad (JouW cA h0 s0) sz [.ref (h0 0), .int a1] (some (.int q)) (JouW cA h0 s0) := by
  generalize erm : ({ frames := 1, cells := 0, slots := 0, locals := 21 } : Room) = rm
  refine zMet (by decide) (Nat.le_of_ble_eq_true rfl) ?_
  intro p e s m below meth c hx hb hr hlocks hml hts hown hin hK hP A eA hD hS hA hsz hN hE ls hl
  have hl : lv_has ls 2 [(0, .ref (h0 0)), (1, .int a1)] := hl
  clear eA
  rw [fX6_creditedBy] at h
  refine lv_aload_n hx hb dX6_creditedBy_0 rfl (lv_at hl 0 rfl) ?_
  refine va_get (D := D) (ci := 6) (v := .ref (h0 2)) (C := RX6) (T := TX6) (N := 6) hx hb hts iX6 hown hK hP 0 rfl rfl 1 (by decide) (hts _ qfl_X6_15) (fun _ h9 => h9) rfl dX6_creditedBy_1 ?_
  refine lv_iload_n hx hb dX6_creditedBy_4 rfl (lv_at hl 1 rfl) ?_
  obtain ⟨q1, c1, h⟩ := x_call h
  refine xCall (w2 := JouW cA h0 s0) (zRunS (n := 1) (As := [.int a1]) (rest := [.ref (h0 2)]) ⟨hx, hb, hml, hown, hts⟩ (kX6_rowOf l D cA ad  _ N a1 q1 c1) qco_X6_rowOf qml_X6_62 qst_X6_rowOf qini_X6 (by decide +kernel) (by rw [← erm]; rfl) hN hE hS hA hK hP hD [] rfl rfl rfl rfl hl.1 rfl (lv_room (Nat.le_of_ble_eq_true rfl)) dX6_creditedBy_5 ⟨Nat.zero_le _, Nat.zero_le _⟩) hP hD hS hA [] [0, 1, 2, 3, 4, 5] [0, 1, 2, 3, 4, 5] rfl (wr := [(h0 0, .inr (6, [.ref (h0 1), .ref (h0 2), .ref (h0 3), .ref (h0 4), .ref (h0 5), .int (s0.2.2.2.2.2)])), (h0 1, .inl (cA 0, 20, .inl (s0.1))), (h0 2, .inl (cA 0, 20, .inl (s0.2.1))), (h0 3, .inl (cA 2, 20, .inr (.inl (s0.2.2.1)))), (h0 4, .inl (cA 0, 20, .inl (s0.2.2.2.1))), (h0 5, .inl (cA 0, 20, .inl (s0.2.2.2.2.1)))]) rfl rfl rfl rfl rfl (fun H locs hP hD hS => ?_)
  obtain ⟨k2, hk2, h⟩ := x_rd h
  refine xIald hx hb hK hP 2 0 rfl rfl hk2 dX6_creditedBy_8 ?_
  have h := Option.some.inj h
  subst h
  exact xIret hx hb hr hlocks hP hK hD hS dX6_creditedBy_9
def fX6_amountIn (N : Nat) (a1 : Int32) (s0 : JouS) : Option (Int64) :=
  xcall (fX6_rowOf N a1) fun q1 =>
  xrd 20 q1 fun k2 =>
  some (s0.2.2.1 k2)
set_option maxRecDepth 100000 in
set_option maxHeartbeats 4000000 in
theorem kX6_amountIn (l : Launch) (D : va_G) (cA : Nat → ClassId) (ad : Nat → Nat) (h0 : Nat → Nat) (sz N : Nat) (a1 : Int32) (s0 : JouS) (q : Int64) (h : fX6_amountIn N a1 s0 = some q) : zM l yX6_amountIn cX6_amountIn 2 (some .long) ({ frames := 1, cells := 0, slots := 0, locals := 21 }) D cA ad (JouW cA h0 s0) sz [.ref (h0 0), .int a1] (some (.long q)) (JouW cA h0 s0) := by
  generalize erm : ({ frames := 1, cells := 0, slots := 0, locals := 21 } : Room) = rm
  refine zMet (by decide) (Nat.le_of_ble_eq_true rfl) ?_
  intro p e s m below meth c hx hb hr hlocks hml hts hown hin hK hP A eA hD hS hA hsz hN hE ls hl
  have hl : lv_has ls 2 [(0, .ref (h0 0)), (1, .int a1)] := hl
  clear eA
  rw [fX6_amountIn] at h
  refine lv_aload_n hx hb dX6_amountIn_0 rfl (lv_at hl 0 rfl) ?_
  refine va_get (D := D) (ci := 6) (v := .ref (h0 3)) (C := RX6) (T := TX6) (N := 6) hx hb hts iX6 hown hK hP 0 rfl rfl 2 (by decide) (hts _ qfl_X6_18) (fun _ h9 => h9) rfl dX6_amountIn_1 ?_
  refine lv_iload_n hx hb dX6_amountIn_4 rfl (lv_at hl 1 rfl) ?_
  obtain ⟨q1, c1, h⟩ := x_call h
  refine xCall (w2 := JouW cA h0 s0) (zRunS (n := 1) (As := [.int a1]) (rest := [.ref (h0 3)]) ⟨hx, hb, hml, hown, hts⟩ (kX6_rowOf l D cA ad  _ N a1 q1 c1) qco_X6_rowOf qml_X6_62 qst_X6_rowOf qini_X6 (by decide +kernel) (by rw [← erm]; rfl) hN hE hS hA hK hP hD [] rfl rfl rfl rfl hl.1 rfl (lv_room (Nat.le_of_ble_eq_true rfl)) dX6_amountIn_5 ⟨Nat.zero_le _, Nat.zero_le _⟩) hP hD hS hA [] [0, 1, 2, 3, 4, 5] [0, 1, 2, 3, 4, 5] rfl (wr := [(h0 0, .inr (6, [.ref (h0 1), .ref (h0 2), .ref (h0 3), .ref (h0 4), .ref (h0 5), .int (s0.2.2.2.2.2)])), (h0 1, .inl (cA 0, 20, .inl (s0.1))), (h0 2, .inl (cA 0, 20, .inl (s0.2.1))), (h0 3, .inl (cA 2, 20, .inr (.inl (s0.2.2.1)))), (h0 4, .inl (cA 0, 20, .inl (s0.2.2.2.1))), (h0 5, .inl (cA 0, 20, .inl (s0.2.2.2.2.1)))]) rfl rfl rfl rfl rfl (fun H locs hP hD hS => ?_)
  obtain ⟨k2, hk2, h⟩ := x_rd h
  refine xLald hx hb hK hP 3 2 rfl rfl hk2 dX6_amountIn_8 ?_
  have h := Option.some.inj h
  subst h
  exact xLret hx hb hr hlocks hP hK hD hS dX6_amountIn_9
def fX6_hourAt (N : Nat) (a1 : Int32) (s0 : JouS) : Option (Int32) :=
  xcall (fX6_rowOf N a1) fun q1 =>
  xrd 20 q1 fun k2 =>
  some (s0.2.2.2.1 k2)
set_option maxRecDepth 100000 in
set_option maxHeartbeats 4000000 in
theorem kX6_hourAt (l : Launch) (D : va_G) (cA : Nat → ClassId) (ad : Nat → Nat) (h0 : Nat → Nat) (sz N : Nat) (a1 : Int32) (s0 : JouS) (q : Int32) (h : fX6_hourAt N a1 s0 = some q) : zM l yX6_hourAt cX6_hourAt 2 (some .int) ({ frames := 1, cells := 0, slots := 0, locals := 21 }) D cA ad (JouW cA h0 s0) sz [.ref (h0 0), .int a1] (some (.int q)) (JouW cA h0 s0) := by
  generalize erm : ({ frames := 1, cells := 0, slots := 0, locals := 21 } : Room) = rm
  refine zMet (by decide) (Nat.le_of_ble_eq_true rfl) ?_
  intro p e s m below meth c hx hb hr hlocks hml hts hown hin hK hP A eA hD hS hA hsz hN hE ls hl
  have hl : lv_has ls 2 [(0, .ref (h0 0)), (1, .int a1)] := hl
  clear eA
  rw [fX6_hourAt] at h
  refine lv_aload_n hx hb dX6_hourAt_0 rfl (lv_at hl 0 rfl) ?_
  refine va_get (D := D) (ci := 6) (v := .ref (h0 4)) (C := RX6) (T := TX6) (N := 6) hx hb hts iX6 hown hK hP 0 rfl rfl 3 (by decide) (hts _ qfl_X6_22) (fun _ h9 => h9) rfl dX6_hourAt_1 ?_
  refine lv_iload_n hx hb dX6_hourAt_4 rfl (lv_at hl 1 rfl) ?_
  obtain ⟨q1, c1, h⟩ := x_call h
  refine xCall (w2 := JouW cA h0 s0) (zRunS (n := 1) (As := [.int a1]) (rest := [.ref (h0 4)]) ⟨hx, hb, hml, hown, hts⟩ (kX6_rowOf l D cA ad  _ N a1 q1 c1) qco_X6_rowOf qml_X6_62 qst_X6_rowOf qini_X6 (by decide +kernel) (by rw [← erm]; rfl) hN hE hS hA hK hP hD [] rfl rfl rfl rfl hl.1 rfl (lv_room (Nat.le_of_ble_eq_true rfl)) dX6_hourAt_5 ⟨Nat.zero_le _, Nat.zero_le _⟩) hP hD hS hA [] [0, 1, 2, 3, 4, 5] [0, 1, 2, 3, 4, 5] rfl (wr := [(h0 0, .inr (6, [.ref (h0 1), .ref (h0 2), .ref (h0 3), .ref (h0 4), .ref (h0 5), .int (s0.2.2.2.2.2)])), (h0 1, .inl (cA 0, 20, .inl (s0.1))), (h0 2, .inl (cA 0, 20, .inl (s0.2.1))), (h0 3, .inl (cA 2, 20, .inr (.inl (s0.2.2.1)))), (h0 4, .inl (cA 0, 20, .inl (s0.2.2.2.1))), (h0 5, .inl (cA 0, 20, .inl (s0.2.2.2.2.1)))]) rfl rfl rfl rfl rfl (fun H locs hP hD hS => ?_)
  obtain ⟨k2, hk2, h⟩ := x_rd h
  refine xIald hx hb hK hP 4 0 rfl rfl hk2 dX6_hourAt_8 ?_
  have h := Option.some.inj h
  subst h
  exact xIret hx hb hr hlocks hP hK hD hS dX6_hourAt_9
def fX6_wasReversed (N : Nat) (a1 : Int32) (s0 : JouS) : Option (Int32) :=
  xcall (fX6_rowOf N a1) fun q1 =>
  xrd 20 q1 fun k2 =>
  xjoin (fun (t0_3 : Int32) =>
      xnz (xnar .boolean t0_3) <|
      some t0_3
    ) fun J18 =>
  if (s0.2.2.2.2.1 k2) = 1 then
    J18 1
  else
    J18 0
set_option maxRecDepth 100000 in
set_option maxHeartbeats 4000000 in
theorem kX6_wasReversed (l : Launch) (D : va_G) (cA : Nat → ClassId) (ad : Nat → Nat) (h0 : Nat → Nat) (sz N : Nat) (a1 : Int32) (s0 : JouS) (q : Int32) (h : fX6_wasReversed N a1 s0 = some q) : zM l yX6_wasReversed cX6_wasReversed 2 (some .boolean) ({ frames := 1, cells := 0, slots := 0, locals := 21 }) D cA ad (JouW cA h0 s0) sz [.ref (h0 0), .int a1] (some (.int q)) (JouW cA h0 s0) := by
  generalize erm : ({ frames := 1, cells := 0, slots := 0, locals := 21 } : Room) = rm
  refine zMet (by decide) (Nat.le_of_ble_eq_true rfl) ?_
  intro p e s m below meth c hx hb hr hlocks hml hts hown hin hK hP A eA hD hS hA hsz hN hE ls hl
  have hl : lv_has ls 2 [(0, .ref (h0 0)), (1, .int a1)] := hl
  clear eA
  rw [fX6_wasReversed] at h
  refine lv_aload_n hx hb dX6_wasReversed_0 rfl (lv_at hl 0 rfl) ?_
  refine va_get (D := D) (ci := 6) (v := .ref (h0 5)) (C := RX6) (T := TX6) (N := 6) hx hb hts iX6 hown hK hP 0 rfl rfl 4 (by decide) (hts _ qfl_X6_25) (fun _ h9 => h9) rfl dX6_wasReversed_1 ?_
  refine lv_iload_n hx hb dX6_wasReversed_4 rfl (lv_at hl 1 rfl) ?_
  obtain ⟨q1, c1, h⟩ := x_call h
  refine xCall (w2 := JouW cA h0 s0) (zRunS (n := 1) (As := [.int a1]) (rest := [.ref (h0 5)]) ⟨hx, hb, hml, hown, hts⟩ (kX6_rowOf l D cA ad  _ N a1 q1 c1) qco_X6_rowOf qml_X6_62 qst_X6_rowOf qini_X6 (by decide +kernel) (by rw [← erm]; rfl) hN hE hS hA hK hP hD [] rfl rfl rfl rfl hl.1 rfl (lv_room (Nat.le_of_ble_eq_true rfl)) dX6_wasReversed_5 ⟨Nat.zero_le _, Nat.zero_le _⟩) hP hD hS hA [] [0, 1, 2, 3, 4, 5] [0, 1, 2, 3, 4, 5] rfl (wr := [(h0 0, .inr (6, [.ref (h0 1), .ref (h0 2), .ref (h0 3), .ref (h0 4), .ref (h0 5), .int (s0.2.2.2.2.2)])), (h0 1, .inl (cA 0, 20, .inl (s0.1))), (h0 2, .inl (cA 0, 20, .inl (s0.2.1))), (h0 3, .inl (cA 2, 20, .inr (.inl (s0.2.2.1)))), (h0 4, .inl (cA 0, 20, .inl (s0.2.2.2.1))), (h0 5, .inl (cA 0, 20, .inl (s0.2.2.2.2.1)))]) rfl rfl rfl rfl rfl (fun H locs hP hD hS => ?_)
  obtain ⟨k2, hk2, h⟩ := x_rd h
  refine xIald hx hb hK hP 5 0 rfl rfl hk2 dX6_wasReversed_8 ?_
  refine lv_iconst (v := 1) hx hb dX6_wasReversed_9 (by decide) ?_
  obtain ⟨J18, eJ18, h⟩ := x_join h
  have hJ_J18 : ∀ (t0_3 : Int32) (H : Heap) (locs : List Loc), va_P D vwCl (JouW cA h0 s0) H → va_D A (JouW cA h0 s0) → va_S A s.heap H locs → ∀ ls : Array Slot, lv_has ls 2 [] → J18 t0_3 = some q → W p l e rm s m ([.ref (h0 0), .int a1] : List Value).toArray below meth c H locs 0 0 (MQ below (xQ D cA A (JouW cA h0 s0) (some (.int q))) ([.ref (h0 0), .int a1] : List Value).toArray s 0 0 A) (F0 m 18 ls [.int t0_3]) := by
    clear h hP hD hS hl
    intro t0_3 H locs hP hD hS ls hl h
    rw [eJ18] at h
    obtain ⟨z4, h⟩ := x_nz h
    have h := Option.some.inj h
    subst h
    exact xZret hx hb hr hlocks (xnar_n z4) hP hK hD hS dX6_wasReversed_18
  refine lv_icmp_ne (tgt := 17) hx hb dX6_wasReversed_10 (by decide) (fun c5 => ?_) (fun c5 => ?_)
  · have h := x_f h c5
    refine lv_iconst (v := 0) hx hb dX6_wasReversed_17 (by decide) ?_
    exact hJ_J18 0 _ _ hP hD hS _ (lv_sub hl [] rfl) h
  · have h := x_t h c5
    refine lv_iconst (v := 1) hx hb dX6_wasReversed_13 (by decide) ?_
    refine lv_goto (tgt := 18) hx hb dX6_wasReversed_14 (by decide) ?_
    exact hJ_J18 1 _ _ hP hD hS _ (lv_sub hl [] rfl) h
def fX8_copyFrom (N : Nat)  (s0 : ProS) (s1 : ProS) : Option (ProS × ProS) :=
  xlet (va_cpy s1.1 s0.1 0 0 6) fun g1 =>
  xlet (va_cpy s1.2.1 s0.2.1 0 0 6) fun g2 =>
  xlet (va_cpy s1.2.2.1 s0.2.2.1 0 0 6) fun g3 =>
  xlet (va_cpy s1.2.2.2.1 s0.2.2.2.1 0 0 6) fun g4 =>
  xlet (va_cpy s1.2.2.2.2.1 s0.2.2.2.2.1 0 0 6) fun g5 =>
  xlet (va_cpy s1.2.2.2.2.2.1 s0.2.2.2.2.2.1 0 0 6) fun g6 =>
  some ((Pros5 (Pros4 (Pros3 (Pros2 (Pros1 (Pros0 s1 g1) g2) g3) g4) g5) g6), s1)
set_option maxRecDepth 100000 in
set_option maxHeartbeats 4000000 in
theorem kX8_copyFrom (l : Launch) (D : va_G) (cA : Nat → ClassId) (ad : Nat → Nat) (h0 : Nat → Nat) (h1 : Nat → Nat) (sz N : Nat)  (s0 : ProS) (s1 : ProS) (q : ProS × ProS) (h : fX8_copyFrom N s0 s1 = some q) : zM l yX8_copyFrom cX8_copyFrom 2 none ({ frames := 1, cells := 0, slots := 0, locals := 40 }) D cA ad (ProW cA h0 s0 ++ ProW cA h1 s1) sz [.ref (h0 0), .ref (h1 0)] (none) (ProW cA h0 q.1 ++ ProW cA h1 q.2) := by
  generalize erm : ({ frames := 1, cells := 0, slots := 0, locals := 40 } : Room) = rm
  refine zMet (by decide) (Nat.le_of_ble_eq_true rfl) ?_
  intro p e s m below meth c hx hb hr hlocks hml hts hown hin hK hP A eA hD hS hA hsz hN hE ls hl
  have hl : lv_has ls 2 [(0, .ref (h0 0)), (1, .ref (h1 0))] := hl
  clear eA
  rw [fX8_copyFrom] at h
  refine lv_aload_n hx hb dX8_copyFrom_0 rfl (lv_at hl 1 rfl) ?_
  refine va_get (D := D) (ci := 8) (v := .ref (h1 1)) (C := RX8) (T := TX8) (N := 7) hx hb hts iX8 hown hK hP 7 rfl rfl 0 (by decide) (hts _ qfl_X8_9) (fun _ h9 => h9) rfl dX8_copyFrom_1 ?_
  refine lv_iconst (v := 0) hx hb dX8_copyFrom_4 (by decide) ?_
  refine lv_aload_n hx hb dX8_copyFrom_5 rfl (lv_at hl 0 rfl) ?_
  refine va_get (D := D) (ci := 8) (v := .ref (h0 1)) (C := RX8) (T := TX8) (N := 7) hx hb hts iX8 hown hK hP 0 rfl rfl 0 (by decide) (hts _ qfl_X8_9) (fun _ h9 => h9) rfl dX8_copyFrom_6 ?_
  refine lv_iconst (v := 0) hx hb dX8_copyFrom_9 (by decide) ?_
  refine lv_bipush (v := 6) hx hb dX8_copyFrom_10 (by decide) ?_
  refine va_copyi (n := 6) (sp := 0) (dp := 0) (ty := .int) hx hb (hml.trans hl.1.symm) hown (hts _ qma_X8_30) (hts _ qnat_copy) (hts _ qsta_copy) (hts _ qini_sys) hK hP hD hS 8 1 0 0 rfl rfl rfl rfl rfl (by decide) (by decide) (by decide) (by decide) (by decide) (fun _ _ => rfl) (by rw [← erm]; exact Nat.le_of_ble_eq_true rfl) (by rw [← erm]; exact Nat.le_of_ble_eq_true rfl) dX8_copyFrom_12 (fun H locs hP hD hS => ?_)
  obtain ⟨g1, eg1⟩ : ∃ y : Nat → Int32, y = va_cpy s1.1 s0.1 0 0 6 := ⟨_, rfl⟩
  have h := x_let h eg1
  have hP : va_P D vwCl (ProW cA h0 ((Pros0 s0 g1)) ++ ProW cA h1 s1) H := by rw [eg1]; exact hP
  have hD : va_D A (ProW cA h0 ((Pros0 s0 g1)) ++ ProW cA h1 s1) := by rw [eg1]; exact hD
  refine lv_aload_n hx hb dX8_copyFrom_15 rfl (lv_at hl 1 rfl) ?_
  refine va_get (D := D) (ci := 8) (v := .ref (h1 2)) (C := RX8) (T := TX8) (N := 7) hx hb hts iX8 hown hK hP 7 rfl rfl 1 (by decide) (hts _ qfl_X8_15) (fun _ h9 => h9) rfl dX8_copyFrom_16 ?_
  refine lv_iconst (v := 0) hx hb dX8_copyFrom_19 (by decide) ?_
  refine lv_aload_n hx hb dX8_copyFrom_20 rfl (lv_at hl 0 rfl) ?_
  refine va_get (D := D) (ci := 8) (v := .ref (h0 2)) (C := RX8) (T := TX8) (N := 7) hx hb hts iX8 hown hK hP 0 rfl rfl 1 (by decide) (hts _ qfl_X8_15) (fun _ h9 => h9) rfl dX8_copyFrom_21 ?_
  refine lv_iconst (v := 0) hx hb dX8_copyFrom_24 (by decide) ?_
  refine lv_bipush (v := 6) hx hb dX8_copyFrom_25 (by decide) ?_
  refine va_copyi (n := 6) (sp := 0) (dp := 0) (ty := .int) hx hb (hml.trans hl.1.symm) hown (hts _ qma_X8_30) (hts _ qnat_copy) (hts _ qsta_copy) (hts _ qini_sys) hK hP hD hS 9 2 0 0 rfl rfl rfl rfl rfl (by decide) (by decide) (by decide) (by decide) (by decide) (fun _ _ => rfl) (by rw [← erm]; exact Nat.le_of_ble_eq_true rfl) (by rw [← erm]; exact Nat.le_of_ble_eq_true rfl) dX8_copyFrom_27 (fun H locs hP hD hS => ?_)
  obtain ⟨g2, eg2⟩ : ∃ y : Nat → Int32, y = va_cpy s1.2.1 s0.2.1 0 0 6 := ⟨_, rfl⟩
  have h := x_let h eg2
  have hP : va_P D vwCl (ProW cA h0 ((Pros1 (Pros0 s0 g1) g2)) ++ ProW cA h1 s1) H := by rw [eg2]; exact hP
  have hD : va_D A (ProW cA h0 ((Pros1 (Pros0 s0 g1) g2)) ++ ProW cA h1 s1) := by rw [eg2]; exact hD
  refine lv_aload_n hx hb dX8_copyFrom_30 rfl (lv_at hl 1 rfl) ?_
  refine va_get (D := D) (ci := 8) (v := .ref (h1 3)) (C := RX8) (T := TX8) (N := 7) hx hb hts iX8 hown hK hP 7 rfl rfl 2 (by decide) (hts _ qfl_X8_18) (fun _ h9 => h9) rfl dX8_copyFrom_31 ?_
  refine lv_iconst (v := 0) hx hb dX8_copyFrom_34 (by decide) ?_
  refine lv_aload_n hx hb dX8_copyFrom_35 rfl (lv_at hl 0 rfl) ?_
  refine va_get (D := D) (ci := 8) (v := .ref (h0 3)) (C := RX8) (T := TX8) (N := 7) hx hb hts iX8 hown hK hP 0 rfl rfl 2 (by decide) (hts _ qfl_X8_18) (fun _ h9 => h9) rfl dX8_copyFrom_36 ?_
  refine lv_iconst (v := 0) hx hb dX8_copyFrom_39 (by decide) ?_
  refine lv_bipush (v := 6) hx hb dX8_copyFrom_40 (by decide) ?_
  refine va_copyi (n := 6) (sp := 0) (dp := 0) (ty := .int) hx hb (hml.trans hl.1.symm) hown (hts _ qma_X8_30) (hts _ qnat_copy) (hts _ qsta_copy) (hts _ qini_sys) hK hP hD hS 10 3 0 0 rfl rfl rfl rfl rfl (by decide) (by decide) (by decide) (by decide) (by decide) (fun _ _ => rfl) (by rw [← erm]; exact Nat.le_of_ble_eq_true rfl) (by rw [← erm]; exact Nat.le_of_ble_eq_true rfl) dX8_copyFrom_42 (fun H locs hP hD hS => ?_)
  obtain ⟨g3, eg3⟩ : ∃ y : Nat → Int32, y = va_cpy s1.2.2.1 s0.2.2.1 0 0 6 := ⟨_, rfl⟩
  have h := x_let h eg3
  have hP : va_P D vwCl (ProW cA h0 ((Pros2 (Pros1 (Pros0 s0 g1) g2) g3)) ++ ProW cA h1 s1) H := by rw [eg3]; exact hP
  have hD : va_D A (ProW cA h0 ((Pros2 (Pros1 (Pros0 s0 g1) g2) g3)) ++ ProW cA h1 s1) := by rw [eg3]; exact hD
  refine lv_aload_n hx hb dX8_copyFrom_45 rfl (lv_at hl 1 rfl) ?_
  refine va_get (D := D) (ci := 8) (v := .ref (h1 4)) (C := RX8) (T := TX8) (N := 7) hx hb hts iX8 hown hK hP 7 rfl rfl 3 (by decide) (hts _ qfl_X8_21) (fun _ h9 => h9) rfl dX8_copyFrom_46 ?_
  refine lv_iconst (v := 0) hx hb dX8_copyFrom_49 (by decide) ?_
  refine lv_aload_n hx hb dX8_copyFrom_50 rfl (lv_at hl 0 rfl) ?_
  refine va_get (D := D) (ci := 8) (v := .ref (h0 4)) (C := RX8) (T := TX8) (N := 7) hx hb hts iX8 hown hK hP 0 rfl rfl 3 (by decide) (hts _ qfl_X8_21) (fun _ h9 => h9) rfl dX8_copyFrom_51 ?_
  refine lv_iconst (v := 0) hx hb dX8_copyFrom_54 (by decide) ?_
  refine lv_bipush (v := 6) hx hb dX8_copyFrom_55 (by decide) ?_
  refine va_copyi (n := 6) (sp := 0) (dp := 0) (ty := .int) hx hb (hml.trans hl.1.symm) hown (hts _ qma_X8_30) (hts _ qnat_copy) (hts _ qsta_copy) (hts _ qini_sys) hK hP hD hS 11 4 0 0 rfl rfl rfl rfl rfl (by decide) (by decide) (by decide) (by decide) (by decide) (fun _ _ => rfl) (by rw [← erm]; exact Nat.le_of_ble_eq_true rfl) (by rw [← erm]; exact Nat.le_of_ble_eq_true rfl) dX8_copyFrom_57 (fun H locs hP hD hS => ?_)
  obtain ⟨g4, eg4⟩ : ∃ y : Nat → Int32, y = va_cpy s1.2.2.2.1 s0.2.2.2.1 0 0 6 := ⟨_, rfl⟩
  have h := x_let h eg4
  have hP : va_P D vwCl (ProW cA h0 ((Pros3 (Pros2 (Pros1 (Pros0 s0 g1) g2) g3) g4)) ++ ProW cA h1 s1) H := by rw [eg4]; exact hP
  have hD : va_D A (ProW cA h0 ((Pros3 (Pros2 (Pros1 (Pros0 s0 g1) g2) g3) g4)) ++ ProW cA h1 s1) := by rw [eg4]; exact hD
  refine lv_aload_n hx hb dX8_copyFrom_60 rfl (lv_at hl 1 rfl) ?_
  refine va_get (D := D) (ci := 8) (v := .ref (h1 5)) (C := RX8) (T := TX8) (N := 7) hx hb hts iX8 hown hK hP 7 rfl rfl 4 (by decide) (hts _ qfl_X8_24) (fun _ h9 => h9) rfl dX8_copyFrom_61 ?_
  refine lv_iconst (v := 0) hx hb dX8_copyFrom_64 (by decide) ?_
  refine lv_aload_n hx hb dX8_copyFrom_65 rfl (lv_at hl 0 rfl) ?_
  refine va_get (D := D) (ci := 8) (v := .ref (h0 5)) (C := RX8) (T := TX8) (N := 7) hx hb hts iX8 hown hK hP 0 rfl rfl 4 (by decide) (hts _ qfl_X8_24) (fun _ h9 => h9) rfl dX8_copyFrom_66 ?_
  refine lv_iconst (v := 0) hx hb dX8_copyFrom_69 (by decide) ?_
  refine lv_bipush (v := 6) hx hb dX8_copyFrom_70 (by decide) ?_
  refine va_copyi (n := 6) (sp := 0) (dp := 0) (ty := .int) hx hb (hml.trans hl.1.symm) hown (hts _ qma_X8_30) (hts _ qnat_copy) (hts _ qsta_copy) (hts _ qini_sys) hK hP hD hS 12 5 0 0 rfl rfl rfl rfl rfl (by decide) (by decide) (by decide) (by decide) (by decide) (fun _ _ => rfl) (by rw [← erm]; exact Nat.le_of_ble_eq_true rfl) (by rw [← erm]; exact Nat.le_of_ble_eq_true rfl) dX8_copyFrom_72 (fun H locs hP hD hS => ?_)
  obtain ⟨g5, eg5⟩ : ∃ y : Nat → Int32, y = va_cpy s1.2.2.2.2.1 s0.2.2.2.2.1 0 0 6 := ⟨_, rfl⟩
  have h := x_let h eg5
  have hP : va_P D vwCl (ProW cA h0 ((Pros4 (Pros3 (Pros2 (Pros1 (Pros0 s0 g1) g2) g3) g4) g5)) ++ ProW cA h1 s1) H := by rw [eg5]; exact hP
  have hD : va_D A (ProW cA h0 ((Pros4 (Pros3 (Pros2 (Pros1 (Pros0 s0 g1) g2) g3) g4) g5)) ++ ProW cA h1 s1) := by rw [eg5]; exact hD
  refine lv_aload_n hx hb dX8_copyFrom_75 rfl (lv_at hl 1 rfl) ?_
  refine va_get (D := D) (ci := 8) (v := .ref (h1 6)) (C := RX8) (T := TX8) (N := 7) hx hb hts iX8 hown hK hP 7 rfl rfl 5 (by decide) (hts _ qfl_X8_27) (fun _ h9 => h9) rfl dX8_copyFrom_76 ?_
  refine lv_iconst (v := 0) hx hb dX8_copyFrom_79 (by decide) ?_
  refine lv_aload_n hx hb dX8_copyFrom_80 rfl (lv_at hl 0 rfl) ?_
  refine va_get (D := D) (ci := 8) (v := .ref (h0 6)) (C := RX8) (T := TX8) (N := 7) hx hb hts iX8 hown hK hP 0 rfl rfl 5 (by decide) (hts _ qfl_X8_27) (fun _ h9 => h9) rfl dX8_copyFrom_81 ?_
  refine lv_iconst (v := 0) hx hb dX8_copyFrom_84 (by decide) ?_
  refine lv_bipush (v := 6) hx hb dX8_copyFrom_85 (by decide) ?_
  refine va_copyi (n := 6) (sp := 0) (dp := 0) (ty := .int) hx hb (hml.trans hl.1.symm) hown (hts _ qma_X8_30) (hts _ qnat_copy) (hts _ qsta_copy) (hts _ qini_sys) hK hP hD hS 13 6 0 0 rfl rfl rfl rfl rfl (by decide) (by decide) (by decide) (by decide) (by decide) (fun _ _ => rfl) (by rw [← erm]; exact Nat.le_of_ble_eq_true rfl) (by rw [← erm]; exact Nat.le_of_ble_eq_true rfl) dX8_copyFrom_87 (fun H locs hP hD hS => ?_)
  obtain ⟨g6, eg6⟩ : ∃ y : Nat → Int32, y = va_cpy s1.2.2.2.2.2.1 s0.2.2.2.2.2.1 0 0 6 := ⟨_, rfl⟩
  have h := x_let h eg6
  have hP : va_P D vwCl (ProW cA h0 ((Pros5 (Pros4 (Pros3 (Pros2 (Pros1 (Pros0 s0 g1) g2) g3) g4) g5) g6)) ++ ProW cA h1 s1) H := by rw [eg6]; exact hP
  have hD : va_D A (ProW cA h0 ((Pros5 (Pros4 (Pros3 (Pros2 (Pros1 (Pros0 s0 g1) g2) g3) g4) g5) g6)) ++ ProW cA h1 s1) := by rw [eg6]; exact hD
  refine lv_aload_n hx hb dX8_copyFrom_90 rfl (lv_at hl 0 rfl) ?_
  refine lv_aload_n hx hb dX8_copyFrom_91 rfl (lv_at hl 1 rfl) ?_
  refine va_get (D := D) (ci := 8) (v := .int s1.2.2.2.2.2.2) (C := RX8) (T := TX8) (N := 7) hx hb hts iX8 hown hK hP 7 rfl rfl 6 (by decide) (hts _ qfl_X8_36) (fun _ h9 => h9) rfl dX8_copyFrom_92 ?_
  refine va_put (D := D) (ci := 8) (v := .int s1.2.2.2.2.2.2) (ty := .int) (C := RX8) (T := TX8) (N := 7) hx hb hts iX8 tyX8 tyX8_ok nmX8 hown hK hP hD hS 0 rfl rfl 6 (by decide) (hts _ qfl_X8_36) (fun _ h9 => h9) rfl (by decide +kernel) rfl rfl (Nat.le_of_ble_eq_true rfl) dX8_copyFrom_95 (fun H locs hP hD hS => ?_)
  have hP : va_P D vwCl (ProW cA h0 ((Pros5 (Pros4 (Pros3 (Pros2 (Pros1 (Pros0 s1 g1) g2) g3) g4) g5) g6)) ++ ProW cA h1 s1) H := hP
  have hD : va_D A (ProW cA h0 ((Pros5 (Pros4 (Pros3 (Pros2 (Pros1 (Pros0 s1 g1) g2) g3) g4) g5) g6)) ++ ProW cA h1 s1) := hD
  have h := Option.some.inj h
  subst h
  exact xVret hx hb hr hlocks hP hK hD hS dX8_copyFrom_98
def fX8_has (N : Nat) (a1 : Int32) (s0 : ProS) : Option (Int32) :=
  xcall (fX12_isWithin N a1 0 (s0.2.2.2.2.2.2 - 1)) fun q1 =>
  xnz (xnar .boolean q1) <|
  some q1
set_option maxRecDepth 100000 in
set_option maxHeartbeats 4000000 in
theorem kX8_has (l : Launch) (D : va_G) (cA : Nat → ClassId) (ad : Nat → Nat) (h0 : Nat → Nat) (sz N : Nat) (a1 : Int32) (s0 : ProS) (q : Int32) (h : fX8_has N a1 s0 = some q) : zM l yX8_has cX8_has 2 (some .boolean) ({ frames := 1, cells := 0, slots := 0, locals := 22 }) D cA ad (ProW cA h0 s0) sz [.ref (h0 0), .int a1] (some (.int q)) (ProW cA h0 s0) := by
  generalize erm : ({ frames := 1, cells := 0, slots := 0, locals := 22 } : Room) = rm
  refine zMet (by decide) (Nat.le_of_ble_eq_true rfl) ?_
  intro p e s m below meth c hx hb hr hlocks hml hts hown hin hK hP A eA hD hS hA hsz hN hE ls hl
  have hl : lv_has ls 2 [(0, .ref (h0 0)), (1, .int a1)] := hl
  clear eA
  rw [fX8_has] at h
  refine lv_iload_n hx hb dX8_has_0 rfl (lv_at hl 1 rfl) ?_
  refine lv_iconst (v := 0) hx hb dX8_has_1 (by decide) ?_
  refine lv_aload_n hx hb dX8_has_2 rfl (lv_at hl 0 rfl) ?_
  refine va_get (D := D) (ci := 8) (v := .int s0.2.2.2.2.2.2) (C := RX8) (T := TX8) (N := 7) hx hb hts iX8 hown hK hP 0 rfl rfl 6 (by decide) (hts _ qfl_X8_36) (fun _ h9 => h9) rfl dX8_has_3 ?_
  refine lv_iconst (v := 1) hx hb dX8_has_6 (by decide) ?_
  refine lv_isub hx hb dX8_has_7 ?_
  obtain ⟨q1, c1, h⟩ := x_call h
  refine xCall (w2 := ProW cA h0 s0) (xRunSN (n := 3) (As := [.int a1, .int 0, .int (s0.2.2.2.2.2.2 - 1)]) (rest := []) ⟨hx, hb, hml, hown, hts⟩ (kX12_isWithin l D cA  _ N a1 0 (s0.2.2.2.2.2.2 - 1) q1 c1) qco_X12_isWithin hN qmn_X8_40 qst_X12_isWithin qini_X12 (by decide +kernel) (by rw [← erm]; rfl) hK rfl rfl hl.1 rfl (lv_room (Nat.le_of_ble_eq_true rfl)) dX8_has_8 ⟨Nat.zero_le _, Nat.zero_le _⟩) hP hD hS hA [] [0, 1, 2, 3, 4, 5, 6] [0, 1, 2, 3, 4, 5, 6] rfl (wr := [(h0 0, .inr (8, [.ref (h0 1), .ref (h0 2), .ref (h0 3), .ref (h0 4), .ref (h0 5), .ref (h0 6), .int (s0.2.2.2.2.2.2)])), (h0 1, .inl (cA 0, 6, .inl (s0.1))), (h0 2, .inl (cA 0, 6, .inl (s0.2.1))), (h0 3, .inl (cA 0, 6, .inl (s0.2.2.1))), (h0 4, .inl (cA 0, 6, .inl (s0.2.2.2.1))), (h0 5, .inl (cA 0, 6, .inl (s0.2.2.2.2.1))), (h0 6, .inl (cA 0, 6, .inl (s0.2.2.2.2.2.1)))]) rfl rfl rfl rfl rfl (fun H locs hP hD hS => ?_)
  obtain ⟨z2, h⟩ := x_nz h
  have h := Option.some.inj h
  subst h
  exact xZret hx hb hr hlocks (xnar_n z2) hP hK hD hS dX8_has_11
def fX8_faultOfNew (N : Nat) (a1 : Int32) (a2 : Int32) (s0 : ProS) : Option (Nat) :=
  xcall (fX12_isWithin N a1 1 12) fun q1 =>
  xjoin (fun (u_2 : Unit) =>
      some 3
    ) fun J20 =>
  if q1 = 0 then
    J20 ()
  else
    xcall (fX12_isWithin N a2 1 9) fun q4 =>
    if q4 = 0 then
      J20 ()
    else
      xjoin (fun (t0_6 : Nat) =>
          some t0_6
        ) fun J42 =>
      if 6 ≤ s0.2.2.2.2.2.2 then
        J42 4
      else
        J42 0
set_option maxRecDepth 100000 in
set_option maxHeartbeats 4000000 in
theorem kX8_faultOfNew (l : Launch) (D : va_G) (cA : Nat → ClassId) (ad : Nat → Nat) (h0 : Nat → Nat) (sz N : Nat) (a1 : Int32) (a2 : Int32) (s0 : ProS) (q : Nat) (h : fX8_faultOfNew N a1 a2 s0 = some q) : zM l yX8_faultOfNew cX8_faultOfNew 3 (some (.object "TheatreLedger$Fault")) ({ frames := 1, cells := 0, slots := 0, locals := 22 }) D cA ad (ProW cA h0 s0) sz [.ref (h0 0), .int a1, .int a2] (some (.ref (ad q))) (ProW cA h0 s0) := by
  generalize erm : ({ frames := 1, cells := 0, slots := 0, locals := 22 } : Room) = rm
  refine zMet (by decide) (Nat.le_of_ble_eq_true rfl) ?_
  intro p e s m below meth c hx hb hr hlocks hml hts hown hin hK hP A eA hD hS hA hsz hN hE ls hl
  have hl : lv_has ls 3 [(0, .ref (h0 0)), (1, .int a1), (2, .int a2)] := hl
  clear eA
  rw [fX8_faultOfNew] at h
  refine lv_iload_n hx hb dX8_faultOfNew_0 rfl (lv_at hl 1 rfl) ?_
  refine lv_iconst (v := 1) hx hb dX8_faultOfNew_1 (by decide) ?_
  refine lv_bipush (v := 12) hx hb dX8_faultOfNew_2 (by decide) ?_
  obtain ⟨q1, c1, h⟩ := x_call h
  refine xCall (w2 := ProW cA h0 s0) (xRunSN (n := 3) (As := [.int a1, .int 1, .int 12]) (rest := []) ⟨hx, hb, hml, hown, hts⟩ (kX12_isWithin l D cA  _ N a1 1 12 q1 c1) qco_X12_isWithin hN qmn_X8_40 qst_X12_isWithin qini_X12 (by decide +kernel) (by rw [← erm]; rfl) hK rfl rfl hl.1 rfl (lv_room (Nat.le_of_ble_eq_true rfl)) dX8_faultOfNew_4 ⟨Nat.zero_le _, Nat.zero_le _⟩) hP hD hS hA [] [0, 1, 2, 3, 4, 5, 6] [0, 1, 2, 3, 4, 5, 6] rfl (wr := [(h0 0, .inr (8, [.ref (h0 1), .ref (h0 2), .ref (h0 3), .ref (h0 4), .ref (h0 5), .ref (h0 6), .int (s0.2.2.2.2.2.2)])), (h0 1, .inl (cA 0, 6, .inl (s0.1))), (h0 2, .inl (cA 0, 6, .inl (s0.2.1))), (h0 3, .inl (cA 0, 6, .inl (s0.2.2.1))), (h0 4, .inl (cA 0, 6, .inl (s0.2.2.2.1))), (h0 5, .inl (cA 0, 6, .inl (s0.2.2.2.2.1))), (h0 6, .inl (cA 0, 6, .inl (s0.2.2.2.2.2.1)))]) rfl rfl rfl rfl rfl (fun H locs hP hD hS => ?_)
  obtain ⟨J20, eJ20, h⟩ := x_join h
  have hJ_J20 : ∀ (u_2 : Unit) (H : Heap) (locs : List Loc), va_P D vwCl (ProW cA h0 s0) H → va_D A (ProW cA h0 s0) → va_S A s.heap H locs → ∀ ls : Array Slot, lv_has ls 3 [] → J20 u_2 = some q → W p l e rm s m ([.ref (h0 0), .int a1, .int a2] : List Value).toArray below meth c H locs 0 0 (MQ below (xQ D cA A (ProW cA h0 s0) (some (.ref (ad q)))) ([.ref (h0 0), .int a1, .int a2] : List Value).toArray s 0 0 A) (F0 m 20 ls []) := by
    clear h hP hD hS hl
    intro u_2 H locs hP hD hS ls hl h
    rw [eJ20] at h
    refine va_gets hx hb (xE.f3 hE) hS hown (hts _ qfl_X8_44) (fun _ h9 => h9) dX8_faultOfNew_20 ?_
    have h := Option.some.inj h
    subst h
    exact zAret (a := ad 3) hx hb hr hlocks hP hK hD hS dX8_faultOfNew_23
  refine lv_if_eq (tgt := 20) hx hb dX8_faultOfNew_7 (by decide) (fun c3 => ?_) (fun c3 => ?_)
  · have h := x_t h c3
    exact hJ_J20 () _ _ hP hD hS _ (lv_sub hl [] rfl) h
  · have h := x_f h c3
    refine lv_iload_n hx hb dX8_faultOfNew_10 rfl (lv_at hl 2 rfl) ?_
    refine lv_iconst (v := 1) hx hb dX8_faultOfNew_11 (by decide) ?_
    refine lv_bipush (v := 9) hx hb dX8_faultOfNew_12 (by decide) ?_
    obtain ⟨q4, c4, h⟩ := x_call h
    refine xCall (w2 := ProW cA h0 s0) (xRunSN (n := 3) (As := [.int a2, .int 1, .int 9]) (rest := []) ⟨hx, hb, hml, hown, hts⟩ (kX12_isWithin l D cA  _ N a2 1 9 q4 c4) qco_X12_isWithin hN qmn_X8_40 qst_X12_isWithin qini_X12 (by decide +kernel) (by rw [← erm]; rfl) hK rfl rfl hl.1 rfl (lv_room (Nat.le_of_ble_eq_true rfl)) dX8_faultOfNew_14 ⟨Nat.zero_le _, Nat.zero_le _⟩) hP hD hS hA [] [0, 1, 2, 3, 4, 5, 6] [0, 1, 2, 3, 4, 5, 6] rfl (wr := [(h0 0, .inr (8, [.ref (h0 1), .ref (h0 2), .ref (h0 3), .ref (h0 4), .ref (h0 5), .ref (h0 6), .int (s0.2.2.2.2.2.2)])), (h0 1, .inl (cA 0, 6, .inl (s0.1))), (h0 2, .inl (cA 0, 6, .inl (s0.2.1))), (h0 3, .inl (cA 0, 6, .inl (s0.2.2.1))), (h0 4, .inl (cA 0, 6, .inl (s0.2.2.2.1))), (h0 5, .inl (cA 0, 6, .inl (s0.2.2.2.2.1))), (h0 6, .inl (cA 0, 6, .inl (s0.2.2.2.2.2.1)))]) rfl rfl rfl rfl rfl (fun H locs hP hD hS => ?_)
    refine lv_if_ne (tgt := 24) hx hb dX8_faultOfNew_17 (by decide) (fun c5 => ?_) (fun c5 => ?_)
    · have h := x_f h c5
      refine lv_aload_n hx hb dX8_faultOfNew_24 rfl (lv_at hl 0 rfl) ?_
      refine va_get (D := D) (ci := 8) (v := .int s0.2.2.2.2.2.2) (C := RX8) (T := TX8) (N := 7) hx hb hts iX8 hown hK hP 0 rfl rfl 6 (by decide) (hts _ qfl_X8_36) (fun _ h9 => h9) rfl dX8_faultOfNew_25 ?_
      refine lv_bipush (v := 6) hx hb dX8_faultOfNew_28 (by decide) ?_
      obtain ⟨J42, eJ42, h⟩ := x_join h
      have hJ_J42 : ∀ (t0_6 : Nat) (H : Heap) (locs : List Loc), va_P D vwCl (ProW cA h0 s0) H → va_D A (ProW cA h0 s0) → va_S A s.heap H locs → ∀ ls : Array Slot, lv_has ls 3 [] → J42 t0_6 = some q → W p l e rm s m ([.ref (h0 0), .int a1, .int a2] : List Value).toArray below meth c H locs 0 0 (MQ below (xQ D cA A (ProW cA h0 s0) (some (.ref (ad q)))) ([.ref (h0 0), .int a1, .int a2] : List Value).toArray s 0 0 A) (F0 m 42 ls [.ref (ad t0_6)]) := by
        clear h hP hD hS hl
        intro t0_6 H locs hP hD hS ls hl h
        rw [eJ42] at h
        have h := Option.some.inj h
        subst h
        exact zAret (a := ad t0_6) hx hb hr hlocks hP hK hD hS dX8_faultOfNew_42
      refine lv_icmp_ge (tgt := 39) hx hb dX8_faultOfNew_30 (by decide) (fun c7 => ?_) (fun c7 => ?_)
      · have h := x_t h c7
        refine va_gets hx hb (xE.f4 hE) hS hown (hts _ qfl_X8_53) (fun _ h9 => h9) dX8_faultOfNew_39 ?_
        exact hJ_J42 4 _ _ hP hD hS _ (lv_sub hl [] rfl) h
      · have h := x_f h c7
        refine va_gets hx hb (xE.f0 hE) hS hown (hts _ qfl_X8_50) (fun _ h9 => h9) dX8_faultOfNew_33 ?_
        refine lv_goto (tgt := 42) hx hb dX8_faultOfNew_36 (by decide) ?_
        exact hJ_J42 0 _ _ hP hD hS _ (lv_sub hl [] rfl) h
    · have h := x_t h c5
      exact hJ_J20 () _ _ hP hD hS _ (lv_sub hl [] rfl) h
def fX8_add (N : Nat) (a1 : Int32) (a2 : Int32) (a3 : Int32) (a4 : Int32) (a5 : Int32) (s0 : ProS) : Option (Int32 × ProS) :=
  xjoin (fun (v6_1 : Int32) (s0_1 : ProS) =>
      some (v6_1, s0_1)
    ) fun J74 =>
  if 6 ≤ s0.2.2.2.2.2.2 then
    J74 s0.2.2.2.2.2.2 s0
  else
    xrd 6 s0.2.2.2.2.2.2 fun k3 =>
    xlet (upd s0.1 k3 a1) fun g4 =>
    xrd 6 s0.2.2.2.2.2.2 fun k5 =>
    xlet (upd s0.2.1 k5 a2) fun g6 =>
    xrd 6 s0.2.2.2.2.2.2 fun k7 =>
    xlet (upd s0.2.2.1 k7 a3) fun g8 =>
    xrd 6 s0.2.2.2.2.2.2 fun k9 =>
    xlet (upd s0.2.2.2.1 k9 a4) fun g10 =>
    xrd 6 s0.2.2.2.2.2.2 fun k11 =>
    xlet (upd s0.2.2.2.2.1 k11 a4) fun g12 =>
    xrd 6 s0.2.2.2.2.2.2 fun k13 =>
    xlet (upd s0.2.2.2.2.2.1 k13 a5) fun g14 =>
    xlet (s0.2.2.2.2.2.2 + 1) fun x15 =>
    J74 s0.2.2.2.2.2.2 ((g4, g6, g8, g10, g12, g14, x15))
set_option maxRecDepth 100000 in
set_option maxHeartbeats 4000000 in
theorem kX8_add (l : Launch) (D : va_G) (cA : Nat → ClassId) (ad : Nat → Nat) (h0 : Nat → Nat) (sz N : Nat) (a1 : Int32) (a2 : Int32) (a3 : Int32) (a4 : Int32) (a5 : Int32) (s0 : ProS) (q : Int32 × ProS) (h : fX8_add N a1 a2 a3 a4 a5 s0 = some q) : zM l yX8_add cX8_add 7 (some .int) ({ frames := 0, cells := 0, slots := 0, locals := 0 }) D cA ad (ProW cA h0 s0) sz [.ref (h0 0), .int a1, .int a2, .int a3, .int a4, .int a5] (some (.int q.1)) (ProW cA h0 q.2) := by
  generalize erm : ({ frames := 0, cells := 0, slots := 0, locals := 0 } : Room) = rm
  refine zMet (by decide) (Nat.le_of_ble_eq_true rfl) ?_
  intro p e s m below meth c hx hb hr hlocks hml hts hown hin hK hP A eA hD hS hA hsz hN hE ls hl
  have hl : lv_has ls 7 [(0, .ref (h0 0)), (1, .int a1), (2, .int a2), (3, .int a3), (4, .int a4), (5, .int a5)] := hl
  clear eA
  rw [fX8_add] at h
  refine lv_aload_n hx hb dX8_add_0 rfl (lv_at hl 0 rfl) ?_
  refine va_get (D := D) (ci := 8) (v := .int s0.2.2.2.2.2.2) (C := RX8) (T := TX8) (N := 7) hx hb hts iX8 hown hK hP 0 rfl rfl 6 (by decide) (hts _ qfl_X8_36) (fun _ h9 => h9) rfl dX8_add_1 ?_
  refine lv_istore (lv' := [(6, .int s0.2.2.2.2.2.2), (0, .ref (h0 0)), (1, .int a1), (2, .int a2), (3, .int a3), (4, .int a4), (5, .int a5)]) hx hb dX8_add_4 hl (by decide) rfl (fun ls hl => ?_)
  refine lv_iload hx hb dX8_add_6 (lv_at hl 0 rfl) ?_
  refine lv_bipush (v := 6) hx hb dX8_add_8 (by decide) ?_
  obtain ⟨J74, eJ74, h⟩ := x_join h
  have hJ_J74 : ∀ (v6_1 : Int32) (s0_1 : ProS) (H : Heap) (locs : List Loc), va_P D vwCl (ProW cA h0 s0_1) H → va_D A (ProW cA h0 s0_1) → va_S A s.heap H locs → ∀ ls : Array Slot, lv_has ls 7 [(6, .int v6_1)] → J74 v6_1 s0_1 = some q → W p l e rm s m ([.ref (h0 0), .int a1, .int a2, .int a3, .int a4, .int a5] : List Value).toArray below meth c H locs 0 0 (MQ below (xQ D cA A (ProW cA h0 q.2) (some (.int q.1))) ([.ref (h0 0), .int a1, .int a2, .int a3, .int a4, .int a5] : List Value).toArray s 0 0 A) (F0 m 74 ls []) := by
    clear h hP hD hS hl
    intro v6_1 s0_1 H locs hP hD hS ls hl h
    rw [eJ74] at h
    refine lv_iload hx hb dX8_add_74 (lv_at hl 0 rfl) ?_
    have h := Option.some.inj h
    subst h
    exact xIret hx hb hr hlocks hP hK hD hS dX8_add_76
  refine lv_icmp_ge (tgt := 74) hx hb dX8_add_10 (by decide) (fun c2 => ?_) (fun c2 => ?_)
  · have h := x_t h c2
    exact hJ_J74 s0.2.2.2.2.2.2 s0 _ _ hP hD hS _ (lv_sub hl [0] rfl) h
  · have h := x_f h c2
    refine lv_aload_n hx hb dX8_add_13 rfl (lv_at hl 1 rfl) ?_
    refine va_get (D := D) (ci := 8) (v := .ref (h0 1)) (C := RX8) (T := TX8) (N := 7) hx hb hts iX8 hown hK hP 0 rfl rfl 0 (by decide) (hts _ qfl_X8_9) (fun _ h9 => h9) rfl dX8_add_14 ?_
    refine lv_iload hx hb dX8_add_17 (lv_at hl 0 rfl) ?_
    refine lv_iload_n hx hb dX8_add_19 rfl (lv_at hl 2 rfl) ?_
    obtain ⟨k3, hk3, h⟩ := x_rd h
    refine xIast (w2 := fun zz => ProW cA h0 ((Pros0 s0 zz))) hx hb hK hP hD hS 1 0 rfl rfl hk3 (fun _ => rfl) dX8_add_20 (fun g4 eg4 H locs hP hD hS => ?_)
    have h := x_let h eg4
    have hP : va_P D vwCl (ProW cA h0 ((Pros0 s0 g4))) H := hP
    have hD : va_D A (ProW cA h0 ((Pros0 s0 g4))) := hD
    refine lv_aload_n hx hb dX8_add_21 rfl (lv_at hl 1 rfl) ?_
    refine va_get (D := D) (ci := 8) (v := .ref (h0 2)) (C := RX8) (T := TX8) (N := 7) hx hb hts iX8 hown hK hP 0 rfl rfl 1 (by decide) (hts _ qfl_X8_15) (fun _ h9 => h9) rfl dX8_add_22 ?_
    refine lv_iload hx hb dX8_add_25 (lv_at hl 0 rfl) ?_
    refine lv_iload_n hx hb dX8_add_27 rfl (lv_at hl 3 rfl) ?_
    obtain ⟨k5, hk5, h⟩ := x_rd h
    refine xIast (w2 := fun zz => ProW cA h0 ((Pros1 (Pros0 s0 g4) zz))) hx hb hK hP hD hS 2 0 rfl rfl hk5 (fun _ => rfl) dX8_add_28 (fun g6 eg6 H locs hP hD hS => ?_)
    have h := x_let h eg6
    have hP : va_P D vwCl (ProW cA h0 ((Pros1 (Pros0 s0 g4) g6))) H := hP
    have hD : va_D A (ProW cA h0 ((Pros1 (Pros0 s0 g4) g6))) := hD
    refine lv_aload_n hx hb dX8_add_29 rfl (lv_at hl 1 rfl) ?_
    refine va_get (D := D) (ci := 8) (v := .ref (h0 3)) (C := RX8) (T := TX8) (N := 7) hx hb hts iX8 hown hK hP 0 rfl rfl 2 (by decide) (hts _ qfl_X8_18) (fun _ h9 => h9) rfl dX8_add_30 ?_
    refine lv_iload hx hb dX8_add_33 (lv_at hl 0 rfl) ?_
    refine lv_iload_n hx hb dX8_add_35 rfl (lv_at hl 4 rfl) ?_
    obtain ⟨k7, hk7, h⟩ := x_rd h
    refine xIast (w2 := fun zz => ProW cA h0 ((Pros2 (Pros1 (Pros0 s0 g4) g6) zz))) hx hb hK hP hD hS 3 0 rfl rfl hk7 (fun _ => rfl) dX8_add_36 (fun g8 eg8 H locs hP hD hS => ?_)
    have h := x_let h eg8
    have hP : va_P D vwCl (ProW cA h0 ((Pros2 (Pros1 (Pros0 s0 g4) g6) g8))) H := hP
    have hD : va_D A (ProW cA h0 ((Pros2 (Pros1 (Pros0 s0 g4) g6) g8))) := hD
    refine lv_aload_n hx hb dX8_add_37 rfl (lv_at hl 1 rfl) ?_
    refine va_get (D := D) (ci := 8) (v := .ref (h0 4)) (C := RX8) (T := TX8) (N := 7) hx hb hts iX8 hown hK hP 0 rfl rfl 3 (by decide) (hts _ qfl_X8_21) (fun _ h9 => h9) rfl dX8_add_38 ?_
    refine lv_iload hx hb dX8_add_41 (lv_at hl 0 rfl) ?_
    refine lv_iload hx hb dX8_add_43 (lv_at hl 5 rfl) ?_
    obtain ⟨k9, hk9, h⟩ := x_rd h
    refine xIast (w2 := fun zz => ProW cA h0 ((Pros3 (Pros2 (Pros1 (Pros0 s0 g4) g6) g8) zz))) hx hb hK hP hD hS 4 0 rfl rfl hk9 (fun _ => rfl) dX8_add_45 (fun g10 eg10 H locs hP hD hS => ?_)
    have h := x_let h eg10
    have hP : va_P D vwCl (ProW cA h0 ((Pros3 (Pros2 (Pros1 (Pros0 s0 g4) g6) g8) g10))) H := hP
    have hD : va_D A (ProW cA h0 ((Pros3 (Pros2 (Pros1 (Pros0 s0 g4) g6) g8) g10))) := hD
    refine lv_aload_n hx hb dX8_add_46 rfl (lv_at hl 1 rfl) ?_
    refine va_get (D := D) (ci := 8) (v := .ref (h0 5)) (C := RX8) (T := TX8) (N := 7) hx hb hts iX8 hown hK hP 0 rfl rfl 4 (by decide) (hts _ qfl_X8_24) (fun _ h9 => h9) rfl dX8_add_47 ?_
    refine lv_iload hx hb dX8_add_50 (lv_at hl 0 rfl) ?_
    refine lv_iload hx hb dX8_add_52 (lv_at hl 5 rfl) ?_
    obtain ⟨k11, hk11, h⟩ := x_rd h
    refine xIast (w2 := fun zz => ProW cA h0 ((Pros4 (Pros3 (Pros2 (Pros1 (Pros0 s0 g4) g6) g8) g10) zz))) hx hb hK hP hD hS 5 0 rfl rfl hk11 (fun _ => rfl) dX8_add_54 (fun g12 eg12 H locs hP hD hS => ?_)
    have h := x_let h eg12
    have hP : va_P D vwCl (ProW cA h0 ((Pros4 (Pros3 (Pros2 (Pros1 (Pros0 s0 g4) g6) g8) g10) g12))) H := hP
    have hD : va_D A (ProW cA h0 ((Pros4 (Pros3 (Pros2 (Pros1 (Pros0 s0 g4) g6) g8) g10) g12))) := hD
    refine lv_aload_n hx hb dX8_add_55 rfl (lv_at hl 1 rfl) ?_
    refine va_get (D := D) (ci := 8) (v := .ref (h0 6)) (C := RX8) (T := TX8) (N := 7) hx hb hts iX8 hown hK hP 0 rfl rfl 5 (by decide) (hts _ qfl_X8_27) (fun _ h9 => h9) rfl dX8_add_56 ?_
    refine lv_iload hx hb dX8_add_59 (lv_at hl 0 rfl) ?_
    refine lv_iload hx hb dX8_add_61 (lv_at hl 6 rfl) ?_
    obtain ⟨k13, hk13, h⟩ := x_rd h
    refine xIast (w2 := fun zz => ProW cA h0 ((Pros5 (Pros4 (Pros3 (Pros2 (Pros1 (Pros0 s0 g4) g6) g8) g10) g12) zz))) hx hb hK hP hD hS 6 0 rfl rfl hk13 (fun _ => rfl) dX8_add_63 (fun g14 eg14 H locs hP hD hS => ?_)
    have h := x_let h eg14
    have hP : va_P D vwCl (ProW cA h0 ((Pros5 (Pros4 (Pros3 (Pros2 (Pros1 (Pros0 s0 g4) g6) g8) g10) g12) g14))) H := hP
    have hD : va_D A (ProW cA h0 ((Pros5 (Pros4 (Pros3 (Pros2 (Pros1 (Pros0 s0 g4) g6) g8) g10) g12) g14))) := hD
    refine lv_aload_n hx hb dX8_add_64 rfl (lv_at hl 1 rfl) ?_
    refine lv_dup hx hb dX8_add_65 rfl ?_
    refine va_get (D := D) (ci := 8) (v := .int s0.2.2.2.2.2.2) (C := RX8) (T := TX8) (N := 7) hx hb hts iX8 hown hK hP 0 rfl rfl 6 (by decide) (hts _ qfl_X8_36) (fun _ h9 => h9) rfl dX8_add_66 ?_
    refine lv_iconst (v := 1) hx hb dX8_add_69 (by decide) ?_
    refine lv_iadd hx hb dX8_add_70 ?_
    refine lv_topi (fun x15 ex15 => ?_)
    have h := x_let h ex15
    refine va_put (D := D) (ci := 8) (v := .int x15) (ty := .int) (C := RX8) (T := TX8) (N := 7) hx hb hts iX8 tyX8 tyX8_ok nmX8 hown hK hP hD hS 0 rfl rfl 6 (by decide) (hts _ qfl_X8_36) (fun _ h9 => h9) rfl (by decide +kernel) rfl rfl (Nat.le_of_ble_eq_true rfl) dX8_add_71 (fun H locs hP hD hS => ?_)
    have hP : va_P D vwCl (ProW cA h0 ((g4, g6, g8, g10, g12, g14, x15))) H := hP
    have hD : va_D A (ProW cA h0 ((g4, g6, g8, g10, g12, g14, x15))) := hD
    exact hJ_J74 s0.2.2.2.2.2.2 ((g4, g6, g8, g10, g12, g14, x15)) _ _ hP hD hS _ (lv_sub hl [0] rfl) h
def fX8_shift (N : Nat) (a1 : Int32) (a2 : Int32) (s0 : ProS) : Option (ProS) :=
  xrd 6 a1 fun k1 =>
  xrd 6 a2 fun k2 =>
  xlet (upd s0.1 k2 (s0.1 k1)) fun g3 =>
  xrd 6 a1 fun k4 =>
  xrd 6 a2 fun k5 =>
  xlet (upd s0.2.1 k5 (s0.2.1 k4)) fun g6 =>
  xrd 6 a1 fun k7 =>
  xrd 6 a2 fun k8 =>
  xlet (upd s0.2.2.1 k8 (s0.2.2.1 k7)) fun g9 =>
  xrd 6 a1 fun k10 =>
  xrd 6 a2 fun k11 =>
  xlet (upd s0.2.2.2.1 k11 (s0.2.2.2.1 k10)) fun g12 =>
  xrd 6 a1 fun k13 =>
  xrd 6 a2 fun k14 =>
  xlet (upd s0.2.2.2.2.1 k14 (s0.2.2.2.2.1 k13)) fun g15 =>
  xrd 6 a1 fun k16 =>
  xrd 6 a2 fun k17 =>
  xlet (upd s0.2.2.2.2.2.1 k17 (s0.2.2.2.2.2.1 k16)) fun g18 =>
  some ((Pros5 (Pros4 (Pros3 (Pros2 (Pros1 (Pros0 s0 g3) g6) g9) g12) g15) g18))
set_option maxRecDepth 100000 in
set_option maxHeartbeats 4000000 in
theorem kX8_shift (l : Launch) (D : va_G) (cA : Nat → ClassId) (ad : Nat → Nat) (h0 : Nat → Nat) (sz N : Nat) (a1 : Int32) (a2 : Int32) (s0 : ProS) (q : ProS) (h : fX8_shift N a1 a2 s0 = some q) : zM l yX8_shift cX8_shift 3 none ({ frames := 0, cells := 0, slots := 0, locals := 0 }) D cA ad (ProW cA h0 s0) sz [.ref (h0 0), .int a1, .int a2] (none) (ProW cA h0 q) := by
  generalize erm : ({ frames := 0, cells := 0, slots := 0, locals := 0 } : Room) = rm
  refine zMet (by decide) (Nat.le_of_ble_eq_true rfl) ?_
  intro p e s m below meth c hx hb hr hlocks hml hts hown hin hK hP A eA hD hS hA hsz hN hE ls hl
  have hl : lv_has ls 3 [(0, .ref (h0 0)), (1, .int a1), (2, .int a2)] := hl
  clear eA
  rw [fX8_shift] at h
  refine lv_aload_n hx hb dX8_shift_0 rfl (lv_at hl 0 rfl) ?_
  refine va_get (D := D) (ci := 8) (v := .ref (h0 1)) (C := RX8) (T := TX8) (N := 7) hx hb hts iX8 hown hK hP 0 rfl rfl 0 (by decide) (hts _ qfl_X8_9) (fun _ h9 => h9) rfl dX8_shift_1 ?_
  refine lv_iload_n hx hb dX8_shift_4 rfl (lv_at hl 2 rfl) ?_
  refine lv_aload_n hx hb dX8_shift_5 rfl (lv_at hl 0 rfl) ?_
  refine va_get (D := D) (ci := 8) (v := .ref (h0 1)) (C := RX8) (T := TX8) (N := 7) hx hb hts iX8 hown hK hP 0 rfl rfl 0 (by decide) (hts _ qfl_X8_9) (fun _ h9 => h9) rfl dX8_shift_6 ?_
  refine lv_iload_n hx hb dX8_shift_9 rfl (lv_at hl 1 rfl) ?_
  obtain ⟨k1, hk1, h⟩ := x_rd h
  refine xIald hx hb hK hP 1 0 rfl rfl hk1 dX8_shift_10 ?_
  obtain ⟨k2, hk2, h⟩ := x_rd h
  refine xIast (w2 := fun zz => ProW cA h0 ((Pros0 s0 zz))) hx hb hK hP hD hS 1 0 rfl rfl hk2 (fun _ => rfl) dX8_shift_11 (fun g3 eg3 H locs hP hD hS => ?_)
  have h := x_let h eg3
  have hP : va_P D vwCl (ProW cA h0 ((Pros0 s0 g3))) H := hP
  have hD : va_D A (ProW cA h0 ((Pros0 s0 g3))) := hD
  refine lv_aload_n hx hb dX8_shift_12 rfl (lv_at hl 0 rfl) ?_
  refine va_get (D := D) (ci := 8) (v := .ref (h0 2)) (C := RX8) (T := TX8) (N := 7) hx hb hts iX8 hown hK hP 0 rfl rfl 1 (by decide) (hts _ qfl_X8_15) (fun _ h9 => h9) rfl dX8_shift_13 ?_
  refine lv_iload_n hx hb dX8_shift_16 rfl (lv_at hl 2 rfl) ?_
  refine lv_aload_n hx hb dX8_shift_17 rfl (lv_at hl 0 rfl) ?_
  refine va_get (D := D) (ci := 8) (v := .ref (h0 2)) (C := RX8) (T := TX8) (N := 7) hx hb hts iX8 hown hK hP 0 rfl rfl 1 (by decide) (hts _ qfl_X8_15) (fun _ h9 => h9) rfl dX8_shift_18 ?_
  refine lv_iload_n hx hb dX8_shift_21 rfl (lv_at hl 1 rfl) ?_
  obtain ⟨k4, hk4, h⟩ := x_rd h
  refine xIald hx hb hK hP 2 0 rfl rfl hk4 dX8_shift_22 ?_
  obtain ⟨k5, hk5, h⟩ := x_rd h
  refine xIast (w2 := fun zz => ProW cA h0 ((Pros1 (Pros0 s0 g3) zz))) hx hb hK hP hD hS 2 0 rfl rfl hk5 (fun _ => rfl) dX8_shift_23 (fun g6 eg6 H locs hP hD hS => ?_)
  have h := x_let h eg6
  have hP : va_P D vwCl (ProW cA h0 ((Pros1 (Pros0 s0 g3) g6))) H := hP
  have hD : va_D A (ProW cA h0 ((Pros1 (Pros0 s0 g3) g6))) := hD
  refine lv_aload_n hx hb dX8_shift_24 rfl (lv_at hl 0 rfl) ?_
  refine va_get (D := D) (ci := 8) (v := .ref (h0 3)) (C := RX8) (T := TX8) (N := 7) hx hb hts iX8 hown hK hP 0 rfl rfl 2 (by decide) (hts _ qfl_X8_18) (fun _ h9 => h9) rfl dX8_shift_25 ?_
  refine lv_iload_n hx hb dX8_shift_28 rfl (lv_at hl 2 rfl) ?_
  refine lv_aload_n hx hb dX8_shift_29 rfl (lv_at hl 0 rfl) ?_
  refine va_get (D := D) (ci := 8) (v := .ref (h0 3)) (C := RX8) (T := TX8) (N := 7) hx hb hts iX8 hown hK hP 0 rfl rfl 2 (by decide) (hts _ qfl_X8_18) (fun _ h9 => h9) rfl dX8_shift_30 ?_
  refine lv_iload_n hx hb dX8_shift_33 rfl (lv_at hl 1 rfl) ?_
  obtain ⟨k7, hk7, h⟩ := x_rd h
  refine xIald hx hb hK hP 3 0 rfl rfl hk7 dX8_shift_34 ?_
  obtain ⟨k8, hk8, h⟩ := x_rd h
  refine xIast (w2 := fun zz => ProW cA h0 ((Pros2 (Pros1 (Pros0 s0 g3) g6) zz))) hx hb hK hP hD hS 3 0 rfl rfl hk8 (fun _ => rfl) dX8_shift_35 (fun g9 eg9 H locs hP hD hS => ?_)
  have h := x_let h eg9
  have hP : va_P D vwCl (ProW cA h0 ((Pros2 (Pros1 (Pros0 s0 g3) g6) g9))) H := hP
  have hD : va_D A (ProW cA h0 ((Pros2 (Pros1 (Pros0 s0 g3) g6) g9))) := hD
  refine lv_aload_n hx hb dX8_shift_36 rfl (lv_at hl 0 rfl) ?_
  refine va_get (D := D) (ci := 8) (v := .ref (h0 4)) (C := RX8) (T := TX8) (N := 7) hx hb hts iX8 hown hK hP 0 rfl rfl 3 (by decide) (hts _ qfl_X8_21) (fun _ h9 => h9) rfl dX8_shift_37 ?_
  refine lv_iload_n hx hb dX8_shift_40 rfl (lv_at hl 2 rfl) ?_
  refine lv_aload_n hx hb dX8_shift_41 rfl (lv_at hl 0 rfl) ?_
  refine va_get (D := D) (ci := 8) (v := .ref (h0 4)) (C := RX8) (T := TX8) (N := 7) hx hb hts iX8 hown hK hP 0 rfl rfl 3 (by decide) (hts _ qfl_X8_21) (fun _ h9 => h9) rfl dX8_shift_42 ?_
  refine lv_iload_n hx hb dX8_shift_45 rfl (lv_at hl 1 rfl) ?_
  obtain ⟨k10, hk10, h⟩ := x_rd h
  refine xIald hx hb hK hP 4 0 rfl rfl hk10 dX8_shift_46 ?_
  obtain ⟨k11, hk11, h⟩ := x_rd h
  refine xIast (w2 := fun zz => ProW cA h0 ((Pros3 (Pros2 (Pros1 (Pros0 s0 g3) g6) g9) zz))) hx hb hK hP hD hS 4 0 rfl rfl hk11 (fun _ => rfl) dX8_shift_47 (fun g12 eg12 H locs hP hD hS => ?_)
  have h := x_let h eg12
  have hP : va_P D vwCl (ProW cA h0 ((Pros3 (Pros2 (Pros1 (Pros0 s0 g3) g6) g9) g12))) H := hP
  have hD : va_D A (ProW cA h0 ((Pros3 (Pros2 (Pros1 (Pros0 s0 g3) g6) g9) g12))) := hD
  refine lv_aload_n hx hb dX8_shift_48 rfl (lv_at hl 0 rfl) ?_
  refine va_get (D := D) (ci := 8) (v := .ref (h0 5)) (C := RX8) (T := TX8) (N := 7) hx hb hts iX8 hown hK hP 0 rfl rfl 4 (by decide) (hts _ qfl_X8_24) (fun _ h9 => h9) rfl dX8_shift_49 ?_
  refine lv_iload_n hx hb dX8_shift_52 rfl (lv_at hl 2 rfl) ?_
  refine lv_aload_n hx hb dX8_shift_53 rfl (lv_at hl 0 rfl) ?_
  refine va_get (D := D) (ci := 8) (v := .ref (h0 5)) (C := RX8) (T := TX8) (N := 7) hx hb hts iX8 hown hK hP 0 rfl rfl 4 (by decide) (hts _ qfl_X8_24) (fun _ h9 => h9) rfl dX8_shift_54 ?_
  refine lv_iload_n hx hb dX8_shift_57 rfl (lv_at hl 1 rfl) ?_
  obtain ⟨k13, hk13, h⟩ := x_rd h
  refine xIald hx hb hK hP 5 0 rfl rfl hk13 dX8_shift_58 ?_
  obtain ⟨k14, hk14, h⟩ := x_rd h
  refine xIast (w2 := fun zz => ProW cA h0 ((Pros4 (Pros3 (Pros2 (Pros1 (Pros0 s0 g3) g6) g9) g12) zz))) hx hb hK hP hD hS 5 0 rfl rfl hk14 (fun _ => rfl) dX8_shift_59 (fun g15 eg15 H locs hP hD hS => ?_)
  have h := x_let h eg15
  have hP : va_P D vwCl (ProW cA h0 ((Pros4 (Pros3 (Pros2 (Pros1 (Pros0 s0 g3) g6) g9) g12) g15))) H := hP
  have hD : va_D A (ProW cA h0 ((Pros4 (Pros3 (Pros2 (Pros1 (Pros0 s0 g3) g6) g9) g12) g15))) := hD
  refine lv_aload_n hx hb dX8_shift_60 rfl (lv_at hl 0 rfl) ?_
  refine va_get (D := D) (ci := 8) (v := .ref (h0 6)) (C := RX8) (T := TX8) (N := 7) hx hb hts iX8 hown hK hP 0 rfl rfl 5 (by decide) (hts _ qfl_X8_27) (fun _ h9 => h9) rfl dX8_shift_61 ?_
  refine lv_iload_n hx hb dX8_shift_64 rfl (lv_at hl 2 rfl) ?_
  refine lv_aload_n hx hb dX8_shift_65 rfl (lv_at hl 0 rfl) ?_
  refine va_get (D := D) (ci := 8) (v := .ref (h0 6)) (C := RX8) (T := TX8) (N := 7) hx hb hts iX8 hown hK hP 0 rfl rfl 5 (by decide) (hts _ qfl_X8_27) (fun _ h9 => h9) rfl dX8_shift_66 ?_
  refine lv_iload_n hx hb dX8_shift_69 rfl (lv_at hl 1 rfl) ?_
  obtain ⟨k16, hk16, h⟩ := x_rd h
  refine xIald hx hb hK hP 6 0 rfl rfl hk16 dX8_shift_70 ?_
  obtain ⟨k17, hk17, h⟩ := x_rd h
  refine xIast (w2 := fun zz => ProW cA h0 ((Pros5 (Pros4 (Pros3 (Pros2 (Pros1 (Pros0 s0 g3) g6) g9) g12) g15) zz))) hx hb hK hP hD hS 6 0 rfl rfl hk17 (fun _ => rfl) dX8_shift_71 (fun g18 eg18 H locs hP hD hS => ?_)
  have h := x_let h eg18
  have hP : va_P D vwCl (ProW cA h0 ((Pros5 (Pros4 (Pros3 (Pros2 (Pros1 (Pros0 s0 g3) g6) g9) g12) g15) g18))) H := hP
  have hD : va_D A (ProW cA h0 ((Pros5 (Pros4 (Pros3 (Pros2 (Pros1 (Pros0 s0 g3) g6) g9) g12) g15) g18))) := hD
  have h := Option.some.inj h
  subst h
  exact xVret hx hb hr hlocks hP hK hD hS dX8_shift_72
def fX8_dropEnded_L4 (N : Nat) (K36 : Int32 → ProS → Option (ProS)) : Nat → Int32 → Int32 → ProS → Option (ProS)
  | 0, _, _, _ => none
  | n + 1, v1_2, v2_2, s0_2 =>
    if s0_2.2.2.2.2.2.2 ≤ v2_2 then
      K36 v1_2 s0_2
    else
      xrd 6 v2_2 fun k4 =>
      xjoin (fun (v1_5 : Int32) (v2_5 : Int32) (s0_5 : ProS) =>
          xlet (v2_5 + (1)) fun x6 =>
          fX8_dropEnded_L4 N K36 n v1_5 x6 s0_5
        ) fun J30 =>
      if (s0_2.2.2.2.2.2.1 k4) ≤ 0 then
        J30 v1_2 v2_2 s0_2
      else
        xcall (fX8_shift N v2_2 v1_2 s0_2) fun q8 =>
        xlet (v1_2 + (1)) fun x9 =>
        J30 x9 v2_2 q8
def fX8_dropEnded (N : Nat)  (s0 : ProS) : Option (ProS) :=
  xjoin (fun (v1_1 : Int32) (s0_1 : ProS) =>
      some ((Pros6 s0_1 v1_1))
    ) fun K36 =>
  fX8_dropEnded_L4 N K36 N 0 0 s0
set_option maxRecDepth 100000 in
set_option maxHeartbeats 4000000 in
theorem kX8_dropEnded (l : Launch) (D : va_G) (cA : Nat → ClassId) (ad : Nat → Nat) (h0 : Nat → Nat) (sz N : Nat)  (s0 : ProS) (q : ProS) (h : fX8_dropEnded N s0 = some q) : zM l yX8_dropEnded cX8_dropEnded 3 none ({ frames := 1, cells := 0, slots := 0, locals := 22 }) D cA ad (ProW cA h0 s0) sz [.ref (h0 0)] (none) (ProW cA h0 q) := by
  generalize erm : ({ frames := 1, cells := 0, slots := 0, locals := 22 } : Room) = rm
  refine zMet (by decide) (Nat.le_of_ble_eq_true rfl) ?_
  intro p e s m below meth c hx hb hr hlocks hml hts hown hin hK hP A eA hD hS hA hsz hN hE ls hl
  have hl : lv_has ls 3 [(0, .ref (h0 0))] := hl
  clear eA
  rw [fX8_dropEnded] at h
  refine lv_iconst (v := 0) hx hb dX8_dropEnded_0 (by decide) ?_
  refine lv_istore_n (lv' := [(1, .int 0), (0, .ref (h0 0))]) hx hb dX8_dropEnded_1 rfl hl (by decide) rfl (fun ls hl => ?_)
  refine lv_iconst (v := 0) hx hb dX8_dropEnded_2 (by decide) ?_
  refine lv_istore_n (lv' := [(2, .int 0), (1, .int 0), (0, .ref (h0 0))]) hx hb dX8_dropEnded_3 rfl hl (by decide) rfl (fun ls hl => ?_)
  obtain ⟨K36, eK36, h⟩ := x_join h
  have hJ_K36 : ∀ (v1_1 : Int32) (s0_1 : ProS) (H : Heap) (locs : List Loc), va_P D vwCl (ProW cA h0 s0_1) H → va_D A (ProW cA h0 s0_1) → va_S A s.heap H locs → ∀ ls : Array Slot, lv_has ls 3 [(0, .ref (h0 0)), (1, .int v1_1)] → K36 v1_1 s0_1 = some q → W p l e rm s m ([.ref (h0 0)] : List Value).toArray below meth c H locs 0 0 (MQ below (xQ D cA A (ProW cA h0 q) (none)) ([.ref (h0 0)] : List Value).toArray s 0 0 A) (F0 m 36 ls []) := by
    clear h hP hD hS hl
    intro v1_1 s0_1 H locs hP hD hS ls hl h
    rw [eK36] at h
    refine lv_aload_n hx hb dX8_dropEnded_36 rfl (lv_at hl 0 rfl) ?_
    refine lv_iload_n hx hb dX8_dropEnded_37 rfl (lv_at hl 1 rfl) ?_
    refine va_put (D := D) (ci := 8) (v := .int v1_1) (ty := .int) (C := RX8) (T := TX8) (N := 7) hx hb hts iX8 tyX8 tyX8_ok nmX8 hown hK hP hD hS 0 rfl rfl 6 (by decide) (hts _ qfl_X8_36) (fun _ h9 => h9) rfl (by decide +kernel) rfl rfl (Nat.le_of_ble_eq_true rfl) dX8_dropEnded_38 (fun H locs hP hD hS => ?_)
    have hP : va_P D vwCl (ProW cA h0 ((Pros6 s0_1 v1_1))) H := hP
    have hD : va_D A (ProW cA h0 ((Pros6 s0_1 v1_1))) := hD
    have h := Option.some.inj h
    subst h
    exact xVret hx hb hr hlocks hP hK hD hS dX8_dropEnded_41
  have hL4 : ∀ (n : Nat) (v1_2 : Int32) (v2_2 : Int32) (s0_2 : ProS) (H : Heap) (locs : List Loc), va_P D vwCl (ProW cA h0 s0_2) H → va_D A (ProW cA h0 s0_2) → va_S A s.heap H locs → ∀ ls : Array Slot, lv_has ls 3 [(0, .ref (h0 0)), (1, .int v1_2), (2, .int v2_2)] → fX8_dropEnded_L4 N K36 n v1_2 v2_2 s0_2 = some q → W p l e rm s m ([.ref (h0 0)] : List Value).toArray below meth c H locs 0 0 (MQ below (xQ D cA A (ProW cA h0 q) (none)) ([.ref (h0 0)] : List Value).toArray s 0 0 A) (F0 m 4 ls []) := by
    clear h hP hD hS hl
    intro n
    induction n with
    | zero => intro v1_2 v2_2 s0_2 H locs hP hD hS ls hl h; rw [fX8_dropEnded_L4] at h; cases h
    | succ n ih =>
      intro v1_2 v2_2 s0_2 H locs hP hD hS ls hl h
      rw [fX8_dropEnded_L4] at h
      refine lv_iload_n hx hb dX8_dropEnded_4 rfl (lv_at hl 2 rfl) ?_
      refine lv_aload_n hx hb dX8_dropEnded_5 rfl (lv_at hl 0 rfl) ?_
      refine va_get (D := D) (ci := 8) (v := .int s0_2.2.2.2.2.2.2) (C := RX8) (T := TX8) (N := 7) hx hb hts iX8 hown hK hP 0 rfl rfl 6 (by decide) (hts _ qfl_X8_36) (fun _ h9 => h9) rfl dX8_dropEnded_6 ?_
      refine lv_icmp_ge (tgt := 36) hx hb dX8_dropEnded_9 (by decide) (fun c3 => ?_) (fun c3 => ?_)
      · have h := x_t h c3
        exact hJ_K36 v1_2 s0_2 _ _ hP hD hS _ (lv_sub hl [0, 1] rfl) h
      · have h := x_f h c3
        refine lv_aload_n hx hb dX8_dropEnded_12 rfl (lv_at hl 0 rfl) ?_
        refine va_get (D := D) (ci := 8) (v := .ref (h0 6)) (C := RX8) (T := TX8) (N := 7) hx hb hts iX8 hown hK hP 0 rfl rfl 5 (by decide) (hts _ qfl_X8_27) (fun _ h9 => h9) rfl dX8_dropEnded_13 ?_
        refine lv_iload_n hx hb dX8_dropEnded_16 rfl (lv_at hl 2 rfl) ?_
        obtain ⟨k4, hk4, h⟩ := x_rd h
        refine xIald hx hb hK hP 6 0 rfl rfl hk4 dX8_dropEnded_17 ?_
        obtain ⟨J30, eJ30, h⟩ := x_join h
        have hJ_J30 : ∀ (v1_5 : Int32) (v2_5 : Int32) (s0_5 : ProS) (H : Heap) (locs : List Loc), va_P D vwCl (ProW cA h0 s0_5) H → va_D A (ProW cA h0 s0_5) → va_S A s.heap H locs → ∀ ls : Array Slot, lv_has ls 3 [(0, .ref (h0 0)), (1, .int v1_5), (2, .int v2_5)] → J30 v1_5 v2_5 s0_5 = some q → W p l e rm s m ([.ref (h0 0)] : List Value).toArray below meth c H locs 0 0 (MQ below (xQ D cA A (ProW cA h0 q) (none)) ([.ref (h0 0)] : List Value).toArray s 0 0 A) (F0 m 30 ls []) := by
          clear h hP hD hS hl
          intro v1_5 v2_5 s0_5 H locs hP hD hS ls hl h
          rw [eJ30] at h
          obtain ⟨x6, ex6⟩ : ∃ y : Int32, y = v2_5 + (1) := ⟨_, rfl⟩
          have h := x_let h ex6
          refine lv_iinc (v := x6) (lv' := [(2, .int x6), (0, .ref (h0 0)), (1, .int v1_5)]) hx hb dX8_dropEnded_30 hl (k := 2) rfl (by rw [ex6]; rfl) (by decide) rfl (fun ls hl => ?_)
          refine lv_goto (tgt := 4) hx hb dX8_dropEnded_33 (by decide) ?_
          exact ih v1_5 x6 s0_5 _ _ hP hD hS _ (lv_sub hl [1, 2, 0] rfl) h
        refine lv_if_le (tgt := 30) hx hb dX8_dropEnded_18 (by decide) (fun c7 => ?_) (fun c7 => ?_)
        · have h := x_t h c7
          exact hJ_J30 v1_2 v2_2 s0_2 _ _ hP hD hS _ (lv_sub hl [0, 1, 2] rfl) h
        · have h := x_f h c7
          refine lv_aload_n hx hb dX8_dropEnded_21 rfl (lv_at hl 0 rfl) ?_
          refine lv_iload_n hx hb dX8_dropEnded_22 rfl (lv_at hl 2 rfl) ?_
          refine lv_iload_n hx hb dX8_dropEnded_23 rfl (lv_at hl 1 rfl) ?_
          obtain ⟨q8, c8, h⟩ := x_call h
          refine xCall (w2 := ProW cA h0 q8) (zRunV (n := 2) (As := [.int v2_2, .int v1_2]) (rest := []) ⟨hx, hb, hml, hown, hts⟩ (kX8_shift l D cA ad h0 _ N v2_2 v1_2 s0_2 q8 c8) qco_X8_shift qml_X8_59 qin_X8_shift qse_X8_shift qini_X8 (by decide +kernel) (by rw [← erm]; rfl) hN hE hS hA hK hP hD [0, 1, 2, 3, 4, 5, 6] rfl rfl (q0 := 0) rfl rfl rfl rfl rfl hl.1 rfl (lv_room (Nat.le_of_ble_eq_true rfl)) dX8_dropEnded_24 ⟨Nat.zero_le _, Nat.zero_le _⟩) hP hD hS hA [0, 1, 2, 3, 4, 5, 6] [] [0, 1, 2, 3, 4, 5, 6] rfl (wr := []) rfl rfl rfl rfl rfl (fun H locs hP hD hS => ?_)
          obtain ⟨x9, ex9⟩ : ∃ y : Int32, y = v1_2 + (1) := ⟨_, rfl⟩
          have h := x_let h ex9
          refine lv_iinc (v := x9) (lv' := [(1, .int x9), (0, .ref (h0 0)), (2, .int v2_2)]) hx hb dX8_dropEnded_27 hl (k := 1) rfl (by rw [ex9]; rfl) (by decide) rfl (fun ls hl => ?_)
          exact hJ_J30 x9 v2_2 q8 _ _ hP hD hS _ (lv_sub hl [1, 0, 2] rfl) h
  exact hL4 N 0 0 s0 _ _ hP hD hS _ (lv_sub hl [2, 1, 0] rfl) h
def fX8_end (N : Nat) (a1 : Int32) (s0 : ProS) : Option (Int32 × ProS) :=
  xrd 6 a1 fun k1 =>
  xlet (s0.2.2.2.2.2.1 k1) fun x2 =>
  xrd 6 a1 fun k3 =>
  xlet (upd s0.2.2.2.2.2.1 k3 0) fun g4 =>
  xcall (fX8_dropEnded N ((Pros5 s0 g4))) fun q5 =>
  some (x2, q5)
set_option maxRecDepth 100000 in
set_option maxHeartbeats 4000000 in
theorem kX8_end (l : Launch) (D : va_G) (cA : Nat → ClassId) (ad : Nat → Nat) (h0 : Nat → Nat) (sz N : Nat) (a1 : Int32) (s0 : ProS) (q : Int32 × ProS) (h : fX8_end N a1 s0 = some q) : zM l yX8_end cX8_end 3 (some .int) ({ frames := 2, cells := 0, slots := 0, locals := 44 }) D cA ad (ProW cA h0 s0) sz [.ref (h0 0), .int a1] (some (.int q.1)) (ProW cA h0 q.2) := by
  generalize erm : ({ frames := 2, cells := 0, slots := 0, locals := 44 } : Room) = rm
  refine zMet (by decide) (Nat.le_of_ble_eq_true rfl) ?_
  intro p e s m below meth c hx hb hr hlocks hml hts hown hin hK hP A eA hD hS hA hsz hN hE ls hl
  have hl : lv_has ls 3 [(0, .ref (h0 0)), (1, .int a1)] := hl
  clear eA
  rw [fX8_end] at h
  refine lv_aload_n hx hb dX8_end_0 rfl (lv_at hl 0 rfl) ?_
  refine va_get (D := D) (ci := 8) (v := .ref (h0 6)) (C := RX8) (T := TX8) (N := 7) hx hb hts iX8 hown hK hP 0 rfl rfl 5 (by decide) (hts _ qfl_X8_27) (fun _ h9 => h9) rfl dX8_end_1 ?_
  refine lv_iload_n hx hb dX8_end_4 rfl (lv_at hl 1 rfl) ?_
  obtain ⟨k1, hk1, h⟩ := x_rd h
  refine xIald hx hb hK hP 6 0 rfl rfl hk1 dX8_end_5 ?_
  refine lv_topi (fun x2 ex2 => ?_)
  have h := x_let h ex2
  refine lv_istore_n (lv' := [(2, .int x2), (0, .ref (h0 0)), (1, .int a1)]) hx hb dX8_end_6 rfl hl (by decide) rfl (fun ls hl => ?_)
  refine lv_aload_n hx hb dX8_end_7 rfl (lv_at hl 1 rfl) ?_
  refine va_get (D := D) (ci := 8) (v := .ref (h0 6)) (C := RX8) (T := TX8) (N := 7) hx hb hts iX8 hown hK hP 0 rfl rfl 5 (by decide) (hts _ qfl_X8_27) (fun _ h9 => h9) rfl dX8_end_8 ?_
  refine lv_iload_n hx hb dX8_end_11 rfl (lv_at hl 2 rfl) ?_
  refine lv_iconst (v := 0) hx hb dX8_end_12 (by decide) ?_
  obtain ⟨k3, hk3, h⟩ := x_rd h
  refine xIast (w2 := fun zz => ProW cA h0 ((Pros5 s0 zz))) hx hb hK hP hD hS 6 0 rfl rfl hk3 (fun _ => rfl) dX8_end_13 (fun g4 eg4 H locs hP hD hS => ?_)
  have h := x_let h eg4
  have hP : va_P D vwCl (ProW cA h0 ((Pros5 s0 g4))) H := hP
  have hD : va_D A (ProW cA h0 ((Pros5 s0 g4))) := hD
  refine lv_aload_n hx hb dX8_end_14 rfl (lv_at hl 1 rfl) ?_
  obtain ⟨q5, c5, h⟩ := x_call h
  refine xCall (w2 := ProW cA h0 q5) (zRunV (n := 0) (As := []) (rest := []) ⟨hx, hb, hml, hown, hts⟩ (kX8_dropEnded l D cA ad h0 _ N ((Pros5 s0 g4)) q5 c5) qco_X8_dropEnded qml_X8_56 qin_X8_dropEnded qse_X8_dropEnded qini_X8 (by decide +kernel) (by rw [← erm]; rfl) hN hE hS hA hK hP hD [0, 1, 2, 3, 4, 5, 6] rfl rfl (q0 := 0) rfl rfl rfl rfl rfl hl.1 rfl (lv_room (Nat.le_of_ble_eq_true rfl)) dX8_end_15 ⟨Nat.zero_le _, Nat.zero_le _⟩) hP hD hS hA [0, 1, 2, 3, 4, 5, 6] [] [0, 1, 2, 3, 4, 5, 6] rfl (wr := []) rfl rfl rfl rfl rfl (fun H locs hP hD hS => ?_)
  refine lv_iload_n hx hb dX8_end_18 rfl (lv_at hl 0 rfl) ?_
  have h := Option.some.inj h
  subst h
  exact xIret hx hb hr hlocks hP hK hD hS dX8_end_19
def fX8_comesDue (N : Nat) (a1 : Int32) (s0 : ProS) : Option (Int32 × ProS) :=
  xrd 6 a1 fun k1 =>
  xrd 6 a1 fun k2 =>
  xlet (upd s0.2.2.2.2.1 k2 ((s0.2.2.2.2.1 k1) - 1)) fun g3 =>
  xrd 6 a1 fun k4 =>
  if (g3 k4) ≤ 0 then
    xrd 6 a1 fun k6 =>
    xrd 6 a1 fun k7 =>
    xlet (upd g3 k7 (s0.2.2.2.1 k6)) fun g8 =>
    xrd 6 a1 fun k9 =>
    xrd 6 a1 fun k10 =>
    xlet (upd s0.2.2.2.2.2.1 k10 ((s0.2.2.2.2.2.1 k9) - 1)) fun g11 =>
    some (1, (Pros5 (Pros4 s0 g8) g11))
  else
    some (0, (Pros4 s0 g3))
set_option maxRecDepth 100000 in
set_option maxHeartbeats 4000000 in
theorem kX8_comesDue (l : Launch) (D : va_G) (cA : Nat → ClassId) (ad : Nat → Nat) (h0 : Nat → Nat) (sz N : Nat) (a1 : Int32) (s0 : ProS) (q : Int32 × ProS) (h : fX8_comesDue N a1 s0 = some q) : zM l yX8_comesDue cX8_comesDue 2 (some .boolean) ({ frames := 0, cells := 0, slots := 0, locals := 0 }) D cA ad (ProW cA h0 s0) sz [.ref (h0 0), .int a1] (some (.int q.1)) (ProW cA h0 q.2) := by
  generalize erm : ({ frames := 0, cells := 0, slots := 0, locals := 0 } : Room) = rm
  refine zMet (by decide) (Nat.le_of_ble_eq_true rfl) ?_
  intro p e s m below meth c hx hb hr hlocks hml hts hown hin hK hP A eA hD hS hA hsz hN hE ls hl
  have hl : lv_has ls 2 [(0, .ref (h0 0)), (1, .int a1)] := hl
  clear eA
  rw [fX8_comesDue] at h
  refine lv_aload_n hx hb dX8_comesDue_0 rfl (lv_at hl 0 rfl) ?_
  refine va_get (D := D) (ci := 8) (v := .ref (h0 5)) (C := RX8) (T := TX8) (N := 7) hx hb hts iX8 hown hK hP 0 rfl rfl 4 (by decide) (hts _ qfl_X8_24) (fun _ h9 => h9) rfl dX8_comesDue_1 ?_
  refine lv_iload_n hx hb dX8_comesDue_4 rfl (lv_at hl 1 rfl) ?_
  refine lv_dup2_11 hx hb dX8_comesDue_5 rfl rfl ?_
  obtain ⟨k1, hk1, h⟩ := x_rd h
  refine xIald hx hb hK hP 5 0 rfl rfl hk1 dX8_comesDue_6 ?_
  refine lv_iconst (v := 1) hx hb dX8_comesDue_7 (by decide) ?_
  refine lv_isub hx hb dX8_comesDue_8 ?_
  obtain ⟨k2, hk2, h⟩ := x_rd h
  refine xIast (w2 := fun zz => ProW cA h0 ((Pros4 s0 zz))) hx hb hK hP hD hS 5 0 rfl rfl hk2 (fun _ => rfl) dX8_comesDue_9 (fun g3 eg3 H locs hP hD hS => ?_)
  have h := x_let h eg3
  have hP : va_P D vwCl (ProW cA h0 ((Pros4 s0 g3))) H := hP
  have hD : va_D A (ProW cA h0 ((Pros4 s0 g3))) := hD
  refine lv_aload_n hx hb dX8_comesDue_10 rfl (lv_at hl 0 rfl) ?_
  refine va_get (D := D) (ci := 8) (v := .ref (h0 5)) (C := RX8) (T := TX8) (N := 7) hx hb hts iX8 hown hK hP 0 rfl rfl 4 (by decide) (hts _ qfl_X8_24) (fun _ h9 => h9) rfl dX8_comesDue_11 ?_
  refine lv_iload_n hx hb dX8_comesDue_14 rfl (lv_at hl 1 rfl) ?_
  obtain ⟨k4, hk4, h⟩ := x_rd h
  refine xIald hx hb hK hP 5 0 rfl rfl hk4 dX8_comesDue_15 ?_
  refine lv_if_le (tgt := 21) hx hb dX8_comesDue_16 (by decide) (fun c5 => ?_) (fun c5 => ?_)
  · have h := x_t h c5
    refine lv_aload_n hx hb dX8_comesDue_21 rfl (lv_at hl 0 rfl) ?_
    refine va_get (D := D) (ci := 8) (v := .ref (h0 5)) (C := RX8) (T := TX8) (N := 7) hx hb hts iX8 hown hK hP 0 rfl rfl 4 (by decide) (hts _ qfl_X8_24) (fun _ h9 => h9) rfl dX8_comesDue_22 ?_
    refine lv_iload_n hx hb dX8_comesDue_25 rfl (lv_at hl 1 rfl) ?_
    refine lv_aload_n hx hb dX8_comesDue_26 rfl (lv_at hl 0 rfl) ?_
    refine va_get (D := D) (ci := 8) (v := .ref (h0 4)) (C := RX8) (T := TX8) (N := 7) hx hb hts iX8 hown hK hP 0 rfl rfl 3 (by decide) (hts _ qfl_X8_21) (fun _ h9 => h9) rfl dX8_comesDue_27 ?_
    refine lv_iload_n hx hb dX8_comesDue_30 rfl (lv_at hl 1 rfl) ?_
    obtain ⟨k6, hk6, h⟩ := x_rd h
    refine xIald hx hb hK hP 4 0 rfl rfl hk6 dX8_comesDue_31 ?_
    obtain ⟨k7, hk7, h⟩ := x_rd h
    refine xIast (w2 := fun zz => ProW cA h0 ((Pros4 s0 zz))) hx hb hK hP hD hS 5 0 rfl rfl hk7 (fun _ => rfl) dX8_comesDue_32 (fun g8 eg8 H locs hP hD hS => ?_)
    have h := x_let h eg8
    have hP : va_P D vwCl (ProW cA h0 ((Pros4 s0 g8))) H := hP
    have hD : va_D A (ProW cA h0 ((Pros4 s0 g8))) := hD
    refine lv_aload_n hx hb dX8_comesDue_33 rfl (lv_at hl 0 rfl) ?_
    refine va_get (D := D) (ci := 8) (v := .ref (h0 6)) (C := RX8) (T := TX8) (N := 7) hx hb hts iX8 hown hK hP 0 rfl rfl 5 (by decide) (hts _ qfl_X8_27) (fun _ h9 => h9) rfl dX8_comesDue_34 ?_
    refine lv_iload_n hx hb dX8_comesDue_37 rfl (lv_at hl 1 rfl) ?_
    refine lv_dup2_11 hx hb dX8_comesDue_38 rfl rfl ?_
    obtain ⟨k9, hk9, h⟩ := x_rd h
    refine xIald hx hb hK hP 6 0 rfl rfl hk9 dX8_comesDue_39 ?_
    refine lv_iconst (v := 1) hx hb dX8_comesDue_40 (by decide) ?_
    refine lv_isub hx hb dX8_comesDue_41 ?_
    obtain ⟨k10, hk10, h⟩ := x_rd h
    refine xIast (w2 := fun zz => ProW cA h0 ((Pros5 (Pros4 s0 g8) zz))) hx hb hK hP hD hS 6 0 rfl rfl hk10 (fun _ => rfl) dX8_comesDue_42 (fun g11 eg11 H locs hP hD hS => ?_)
    have h := x_let h eg11
    have hP : va_P D vwCl (ProW cA h0 ((Pros5 (Pros4 s0 g8) g11))) H := hP
    have hD : va_D A (ProW cA h0 ((Pros5 (Pros4 s0 g8) g11))) := hD
    refine lv_iconst (v := 1) hx hb dX8_comesDue_43 (by decide) ?_
    have h := Option.some.inj h
    subst h
    exact xZret (v := 1) hx hb hr hlocks (by decide) hP hK hD hS dX8_comesDue_44
  · have h := x_f h c5
    refine lv_iconst (v := 0) hx hb dX8_comesDue_19 (by decide) ?_
    have h := Option.some.inj h
    subst h
    exact xZret (v := 0) hx hb hr hlocks (by decide) hP hK hD hS dX8_comesDue_20
def fX8_debitedBy (N : Nat) (a1 : Int32) (s0 : ProS) : Option (Int32) :=
  xrd 6 a1 fun k1 =>
  some (s0.1 k1)
set_option maxRecDepth 100000 in
set_option maxHeartbeats 4000000 in
theorem kX8_debitedBy (l : Launch) (D : va_G) (cA : Nat → ClassId) (ad : Nat → Nat) (h0 : Nat → Nat) (sz N : Nat) (a1 : Int32) (s0 : ProS) (q : Int32) (h : fX8_debitedBy N a1 s0 = some q) : zM l yX8_debitedBy cX8_debitedBy 2 (some .int) ({ frames := 0, cells := 0, slots := 0, locals := 0 }) D cA ad (ProW cA h0 s0) sz [.ref (h0 0), .int a1] (some (.int q)) (ProW cA h0 s0) := by
  generalize erm : ({ frames := 0, cells := 0, slots := 0, locals := 0 } : Room) = rm
  refine zMet (by decide) (Nat.le_of_ble_eq_true rfl) ?_
  intro p e s m below meth c hx hb hr hlocks hml hts hown hin hK hP A eA hD hS hA hsz hN hE ls hl
  have hl : lv_has ls 2 [(0, .ref (h0 0)), (1, .int a1)] := hl
  clear eA
  rw [fX8_debitedBy] at h
  refine lv_aload_n hx hb dX8_debitedBy_0 rfl (lv_at hl 0 rfl) ?_
  refine va_get (D := D) (ci := 8) (v := .ref (h0 1)) (C := RX8) (T := TX8) (N := 7) hx hb hts iX8 hown hK hP 0 rfl rfl 0 (by decide) (hts _ qfl_X8_9) (fun _ h9 => h9) rfl dX8_debitedBy_1 ?_
  refine lv_iload_n hx hb dX8_debitedBy_4 rfl (lv_at hl 1 rfl) ?_
  obtain ⟨k1, hk1, h⟩ := x_rd h
  refine xIald hx hb hK hP 1 0 rfl rfl hk1 dX8_debitedBy_5 ?_
  have h := Option.some.inj h
  subst h
  exact xIret hx hb hr hlocks hP hK hD hS dX8_debitedBy_6
def fX8_creditedBy (N : Nat) (a1 : Int32) (s0 : ProS) : Option (Int32) :=
  xrd 6 a1 fun k1 =>
  some (s0.2.1 k1)
set_option maxRecDepth 100000 in
set_option maxHeartbeats 4000000 in
theorem kX8_creditedBy (l : Launch) (D : va_G) (cA : Nat → ClassId) (ad : Nat → Nat) (h0 : Nat → Nat) (sz N : Nat) (a1 : Int32) (s0 : ProS) (q : Int32) (h : fX8_creditedBy N a1 s0 = some q) : zM l yX8_creditedBy cX8_creditedBy 2 (some .int) ({ frames := 0, cells := 0, slots := 0, locals := 0 }) D cA ad (ProW cA h0 s0) sz [.ref (h0 0), .int a1] (some (.int q)) (ProW cA h0 s0) := by
  generalize erm : ({ frames := 0, cells := 0, slots := 0, locals := 0 } : Room) = rm
  refine zMet (by decide) (Nat.le_of_ble_eq_true rfl) ?_
  intro p e s m below meth c hx hb hr hlocks hml hts hown hin hK hP A eA hD hS hA hsz hN hE ls hl
  have hl : lv_has ls 2 [(0, .ref (h0 0)), (1, .int a1)] := hl
  clear eA
  rw [fX8_creditedBy] at h
  refine lv_aload_n hx hb dX8_creditedBy_0 rfl (lv_at hl 0 rfl) ?_
  refine va_get (D := D) (ci := 8) (v := .ref (h0 2)) (C := RX8) (T := TX8) (N := 7) hx hb hts iX8 hown hK hP 0 rfl rfl 1 (by decide) (hts _ qfl_X8_15) (fun _ h9 => h9) rfl dX8_creditedBy_1 ?_
  refine lv_iload_n hx hb dX8_creditedBy_4 rfl (lv_at hl 1 rfl) ?_
  obtain ⟨k1, hk1, h⟩ := x_rd h
  refine xIald hx hb hK hP 2 0 rfl rfl hk1 dX8_creditedBy_5 ?_
  have h := Option.some.inj h
  subst h
  exact xIret hx hb hr hlocks hP hK hD hS dX8_creditedBy_6
def fX8_amountIn (N : Nat) (a1 : Int32) (s0 : ProS) : Option (Int32) :=
  xrd 6 a1 fun k1 =>
  some (s0.2.2.1 k1)
set_option maxRecDepth 100000 in
set_option maxHeartbeats 4000000 in
theorem kX8_amountIn (l : Launch) (D : va_G) (cA : Nat → ClassId) (ad : Nat → Nat) (h0 : Nat → Nat) (sz N : Nat) (a1 : Int32) (s0 : ProS) (q : Int32) (h : fX8_amountIn N a1 s0 = some q) : zM l yX8_amountIn cX8_amountIn 2 (some .int) ({ frames := 0, cells := 0, slots := 0, locals := 0 }) D cA ad (ProW cA h0 s0) sz [.ref (h0 0), .int a1] (some (.int q)) (ProW cA h0 s0) := by
  generalize erm : ({ frames := 0, cells := 0, slots := 0, locals := 0 } : Room) = rm
  refine zMet (by decide) (Nat.le_of_ble_eq_true rfl) ?_
  intro p e s m below meth c hx hb hr hlocks hml hts hown hin hK hP A eA hD hS hA hsz hN hE ls hl
  have hl : lv_has ls 2 [(0, .ref (h0 0)), (1, .int a1)] := hl
  clear eA
  rw [fX8_amountIn] at h
  refine lv_aload_n hx hb dX8_amountIn_0 rfl (lv_at hl 0 rfl) ?_
  refine va_get (D := D) (ci := 8) (v := .ref (h0 3)) (C := RX8) (T := TX8) (N := 7) hx hb hts iX8 hown hK hP 0 rfl rfl 2 (by decide) (hts _ qfl_X8_18) (fun _ h9 => h9) rfl dX8_amountIn_1 ?_
  refine lv_iload_n hx hb dX8_amountIn_4 rfl (lv_at hl 1 rfl) ?_
  obtain ⟨k1, hk1, h⟩ := x_rd h
  refine xIald hx hb hK hP 3 0 rfl rfl hk1 dX8_amountIn_5 ?_
  have h := Option.some.inj h
  subst h
  exact xIret hx hb hr hlocks hP hK hD hS dX8_amountIn_6
def fX8_hoursLeftOf (N : Nat) (a1 : Int32) (s0 : ProS) : Option (Int32) :=
  xrd 6 a1 fun k1 =>
  some (s0.2.2.2.2.1 k1)
set_option maxRecDepth 100000 in
set_option maxHeartbeats 4000000 in
theorem kX8_hoursLeftOf (l : Launch) (D : va_G) (cA : Nat → ClassId) (ad : Nat → Nat) (h0 : Nat → Nat) (sz N : Nat) (a1 : Int32) (s0 : ProS) (q : Int32) (h : fX8_hoursLeftOf N a1 s0 = some q) : zM l yX8_hoursLeftOf cX8_hoursLeftOf 2 (some .int) ({ frames := 0, cells := 0, slots := 0, locals := 0 }) D cA ad (ProW cA h0 s0) sz [.ref (h0 0), .int a1] (some (.int q)) (ProW cA h0 s0) := by
  generalize erm : ({ frames := 0, cells := 0, slots := 0, locals := 0 } : Room) = rm
  refine zMet (by decide) (Nat.le_of_ble_eq_true rfl) ?_
  intro p e s m below meth c hx hb hr hlocks hml hts hown hin hK hP A eA hD hS hA hsz hN hE ls hl
  have hl : lv_has ls 2 [(0, .ref (h0 0)), (1, .int a1)] := hl
  clear eA
  rw [fX8_hoursLeftOf] at h
  refine lv_aload_n hx hb dX8_hoursLeftOf_0 rfl (lv_at hl 0 rfl) ?_
  refine va_get (D := D) (ci := 8) (v := .ref (h0 5)) (C := RX8) (T := TX8) (N := 7) hx hb hts iX8 hown hK hP 0 rfl rfl 4 (by decide) (hts _ qfl_X8_24) (fun _ h9 => h9) rfl dX8_hoursLeftOf_1 ?_
  refine lv_iload_n hx hb dX8_hoursLeftOf_4 rfl (lv_at hl 1 rfl) ?_
  obtain ⟨k1, hk1, h⟩ := x_rd h
  refine xIald hx hb hK hP 5 0 rfl rfl hk1 dX8_hoursLeftOf_5 ?_
  have h := Option.some.inj h
  subst h
  exact xIret hx hb hr hlocks hP hK hD hS dX8_hoursLeftOf_6
def fX8_timesLeftOf (N : Nat) (a1 : Int32) (s0 : ProS) : Option (Int32) :=
  xrd 6 a1 fun k1 =>
  some (s0.2.2.2.2.2.1 k1)
set_option maxRecDepth 100000 in
set_option maxHeartbeats 4000000 in
theorem kX8_timesLeftOf (l : Launch) (D : va_G) (cA : Nat → ClassId) (ad : Nat → Nat) (h0 : Nat → Nat) (sz N : Nat) (a1 : Int32) (s0 : ProS) (q : Int32) (h : fX8_timesLeftOf N a1 s0 = some q) : zM l yX8_timesLeftOf cX8_timesLeftOf 2 (some .int) ({ frames := 0, cells := 0, slots := 0, locals := 0 }) D cA ad (ProW cA h0 s0) sz [.ref (h0 0), .int a1] (some (.int q)) (ProW cA h0 s0) := by
  generalize erm : ({ frames := 0, cells := 0, slots := 0, locals := 0 } : Room) = rm
  refine zMet (by decide) (Nat.le_of_ble_eq_true rfl) ?_
  intro p e s m below meth c hx hb hr hlocks hml hts hown hin hK hP A eA hD hS hA hsz hN hE ls hl
  have hl : lv_has ls 2 [(0, .ref (h0 0)), (1, .int a1)] := hl
  clear eA
  rw [fX8_timesLeftOf] at h
  refine lv_aload_n hx hb dX8_timesLeftOf_0 rfl (lv_at hl 0 rfl) ?_
  refine va_get (D := D) (ci := 8) (v := .ref (h0 6)) (C := RX8) (T := TX8) (N := 7) hx hb hts iX8 hown hK hP 0 rfl rfl 5 (by decide) (hts _ qfl_X8_27) (fun _ h9 => h9) rfl dX8_timesLeftOf_1 ?_
  refine lv_iload_n hx hb dX8_timesLeftOf_4 rfl (lv_at hl 1 rfl) ?_
  obtain ⟨k1, hk1, h⟩ := x_rd h
  refine xIald hx hb hK hP 6 0 rfl rfl hk1 dX8_timesLeftOf_5 ?_
  have h := Option.some.inj h
  subst h
  exact xIret hx hb hr hlocks hP hK hD hS dX8_timesLeftOf_6
def fX8_timesWithin_L10 (N : Nat) (s0 : ProS) (K43 : Int32 → Option (Int32)) : Nat → Int32 → Int32 → Int32 → Int32 → Option (Int32)
  | 0, _, _, _, _ => none
  | n + 1, v1_4, v2_4, v3_4, v4_4 =>
    xrd 6 v1_4 fun k5 =>
    if (s0.2.2.2.2.2.1 k5) ≤ v3_4 then
      K43 v3_4
    else
      if v2_4 < v4_4 then
        K43 v3_4
      else
        xlet (v3_4 + (1)) fun x8 =>
        xrd 6 v1_4 fun k9 =>
        xlet (v4_4 + (s0.2.2.2.1 k9)) fun x10 =>
        fX8_timesWithin_L10 N s0 K43 n v1_4 v2_4 x8 x10
def fX8_timesWithin (N : Nat) (a1 : Int32) (a2 : Int32) (s0 : ProS) : Option (Int32) :=
  xrd 6 a1 fun k1 =>
  xlet (s0.2.2.2.2.1 k1) fun x2 =>
  xjoin (fun (v3_3 : Int32) =>
      some v3_3
    ) fun K43 =>
  fX8_timesWithin_L10 N s0 K43 N a1 a2 0 x2
set_option maxRecDepth 100000 in
set_option maxHeartbeats 4000000 in
theorem kX8_timesWithin (l : Launch) (D : va_G) (cA : Nat → ClassId) (ad : Nat → Nat) (h0 : Nat → Nat) (sz N : Nat) (a1 : Int32) (a2 : Int32) (s0 : ProS) (q : Int32) (h : fX8_timesWithin N a1 a2 s0 = some q) : zM l yX8_timesWithin cX8_timesWithin 5 (some .int) ({ frames := 0, cells := 0, slots := 0, locals := 0 }) D cA ad (ProW cA h0 s0) sz [.ref (h0 0), .int a1, .int a2] (some (.int q)) (ProW cA h0 s0) := by
  generalize erm : ({ frames := 0, cells := 0, slots := 0, locals := 0 } : Room) = rm
  refine zMet (by decide) (Nat.le_of_ble_eq_true rfl) ?_
  intro p e s m below meth c hx hb hr hlocks hml hts hown hin hK hP A eA hD hS hA hsz hN hE ls hl
  have hl : lv_has ls 5 [(0, .ref (h0 0)), (1, .int a1), (2, .int a2)] := hl
  clear eA
  rw [fX8_timesWithin] at h
  refine lv_iconst (v := 0) hx hb dX8_timesWithin_0 (by decide) ?_
  refine lv_istore_n (lv' := [(3, .int 0), (0, .ref (h0 0)), (1, .int a1), (2, .int a2)]) hx hb dX8_timesWithin_1 rfl hl (by decide) rfl (fun ls hl => ?_)
  refine lv_aload_n hx hb dX8_timesWithin_2 rfl (lv_at hl 1 rfl) ?_
  refine va_get (D := D) (ci := 8) (v := .ref (h0 5)) (C := RX8) (T := TX8) (N := 7) hx hb hts iX8 hown hK hP 0 rfl rfl 4 (by decide) (hts _ qfl_X8_24) (fun _ h9 => h9) rfl dX8_timesWithin_3 ?_
  refine lv_iload_n hx hb dX8_timesWithin_6 rfl (lv_at hl 2 rfl) ?_
  obtain ⟨k1, hk1, h⟩ := x_rd h
  refine xIald hx hb hK hP 5 0 rfl rfl hk1 dX8_timesWithin_7 ?_
  refine lv_topi (fun x2 ex2 => ?_)
  have h := x_let h ex2
  refine lv_istore (lv' := [(4, .int x2), (3, .int 0), (0, .ref (h0 0)), (1, .int a1), (2, .int a2)]) hx hb dX8_timesWithin_8 hl (by decide) rfl (fun ls hl => ?_)
  obtain ⟨K43, eK43, h⟩ := x_join h
  have hJ_K43 : ∀ (v3_3 : Int32) (H : Heap) (locs : List Loc), va_P D vwCl (ProW cA h0 s0) H → va_D A (ProW cA h0 s0) → va_S A s.heap H locs → ∀ ls : Array Slot, lv_has ls 5 [(3, .int v3_3)] → K43 v3_3 = some q → W p l e rm s m ([.ref (h0 0), .int a1, .int a2] : List Value).toArray below meth c H locs 0 0 (MQ below (xQ D cA A (ProW cA h0 s0) (some (.int q))) ([.ref (h0 0), .int a1, .int a2] : List Value).toArray s 0 0 A) (F0 m 43 ls []) := by
    clear h hP hD hS hl
    intro v3_3 H locs hP hD hS ls hl h
    rw [eK43] at h
    refine lv_iload_n hx hb dX8_timesWithin_43 rfl (lv_at hl 0 rfl) ?_
    have h := Option.some.inj h
    subst h
    exact xIret hx hb hr hlocks hP hK hD hS dX8_timesWithin_44
  have hL10 : ∀ (n : Nat) (v1_4 : Int32) (v2_4 : Int32) (v3_4 : Int32) (v4_4 : Int32) (H : Heap) (locs : List Loc), va_P D vwCl (ProW cA h0 s0) H → va_D A (ProW cA h0 s0) → va_S A s.heap H locs → ∀ ls : Array Slot, lv_has ls 5 [(0, .ref (h0 0)), (1, .int v1_4), (2, .int v2_4), (3, .int v3_4), (4, .int v4_4)] → fX8_timesWithin_L10 N s0 K43 n v1_4 v2_4 v3_4 v4_4 = some q → W p l e rm s m ([.ref (h0 0), .int a1, .int a2] : List Value).toArray below meth c H locs 0 0 (MQ below (xQ D cA A (ProW cA h0 s0) (some (.int q))) ([.ref (h0 0), .int a1, .int a2] : List Value).toArray s 0 0 A) (F0 m 10 ls []) := by
    clear h hP hD hS hl
    intro n
    induction n with
    | zero => intro v1_4 v2_4 v3_4 v4_4 H locs hP hD hS ls hl h; rw [fX8_timesWithin_L10] at h; cases h
    | succ n ih =>
      intro v1_4 v2_4 v3_4 v4_4 H locs hP hD hS ls hl h
      rw [fX8_timesWithin_L10] at h
      refine lv_iload_n hx hb dX8_timesWithin_10 rfl (lv_at hl 3 rfl) ?_
      refine lv_aload_n hx hb dX8_timesWithin_11 rfl (lv_at hl 0 rfl) ?_
      refine va_get (D := D) (ci := 8) (v := .ref (h0 6)) (C := RX8) (T := TX8) (N := 7) hx hb hts iX8 hown hK hP 0 rfl rfl 5 (by decide) (hts _ qfl_X8_27) (fun _ h9 => h9) rfl dX8_timesWithin_12 ?_
      refine lv_iload_n hx hb dX8_timesWithin_15 rfl (lv_at hl 1 rfl) ?_
      obtain ⟨k5, hk5, h⟩ := x_rd h
      refine xIald hx hb hK hP 6 0 rfl rfl hk5 dX8_timesWithin_16 ?_
      refine lv_icmp_ge (tgt := 43) hx hb dX8_timesWithin_17 (by decide) (fun c6 => ?_) (fun c6 => ?_)
      · have h := x_t h c6
        exact hJ_K43 v3_4 _ _ hP hD hS _ (lv_sub hl [3] rfl) h
      · have h := x_f h c6
        refine lv_iload hx hb dX8_timesWithin_20 (lv_at hl 4 rfl) ?_
        refine lv_iload_n hx hb dX8_timesWithin_22 rfl (lv_at hl 2 rfl) ?_
        refine lv_icmp_gt (tgt := 43) hx hb dX8_timesWithin_23 (by decide) (fun c7 => ?_) (fun c7 => ?_)
        · have h := x_t h c7
          exact hJ_K43 v3_4 _ _ hP hD hS _ (lv_sub hl [3] rfl) h
        · have h := x_f h c7
          obtain ⟨x8, ex8⟩ : ∃ y : Int32, y = v3_4 + (1) := ⟨_, rfl⟩
          have h := x_let h ex8
          refine lv_iinc (v := x8) (lv' := [(3, .int x8), (0, .ref (h0 0)), (1, .int v1_4), (2, .int v2_4), (4, .int v4_4)]) hx hb dX8_timesWithin_26 hl (k := 3) rfl (by rw [ex8]; rfl) (by decide) rfl (fun ls hl => ?_)
          refine lv_iload hx hb dX8_timesWithin_29 (lv_at hl 4 rfl) ?_
          refine lv_aload_n hx hb dX8_timesWithin_31 rfl (lv_at hl 1 rfl) ?_
          refine va_get (D := D) (ci := 8) (v := .ref (h0 4)) (C := RX8) (T := TX8) (N := 7) hx hb hts iX8 hown hK hP 0 rfl rfl 3 (by decide) (hts _ qfl_X8_21) (fun _ h9 => h9) rfl dX8_timesWithin_32 ?_
          refine lv_iload_n hx hb dX8_timesWithin_35 rfl (lv_at hl 2 rfl) ?_
          obtain ⟨k9, hk9, h⟩ := x_rd h
          refine xIald hx hb hK hP 4 0 rfl rfl hk9 dX8_timesWithin_36 ?_
          refine lv_iadd hx hb dX8_timesWithin_37 ?_
          refine lv_topi (fun x10 ex10 => ?_)
          have h := x_let h ex10
          refine lv_istore (lv' := [(4, .int x10), (3, .int x8), (0, .ref (h0 0)), (1, .int v1_4), (2, .int v2_4)]) hx hb dX8_timesWithin_38 hl (by decide) rfl (fun ls hl => ?_)
          refine lv_goto (tgt := 10) hx hb dX8_timesWithin_40 (by decide) ?_
          exact ih v1_4 v2_4 x8 x10 _ _ hP hD hS _ (lv_sub hl [2, 3, 4, 1, 0] rfl) h
  exact hL10 N a1 a2 0 x2 _ _ hP hD hS _ (lv_sub hl [2, 3, 4, 1, 0] rfl) h
def fX8_netDebits_L5 (N : Nat) (s0 : ProS) (K71 : Int64 → Option (Int64)) : Nat → Int32 → Int32 → Int64 → Int32 → Option (Int64)
  | 0, _, _, _, _ => none
  | n + 1, v1_2, v2_2, v3_2, v5_2 =>
    if s0.2.2.2.2.2.2 ≤ v5_2 then
      K71 v3_2
    else
      xrd 6 v5_2 fun k4 =>
      xcall (fX8_timesWithin N v5_2 v2_2 s0) fun q5 =>
      xlet ((Int32.toInt64 (s0.2.2.1 k4)) * (q5.toInt64)) fun x6 =>
      xrd 6 v5_2 fun k7 =>
      xjoin (fun (v1_8 : Int32) (v2_8 : Int32) (v3_8 : Int64) (v5_8 : Int32) (v6_8 : Int64) =>
          xrd 6 v5_8 fun k9 =>
          xjoin (fun (v1_10 : Int32) (v2_10 : Int32) (v3_10 : Int64) (v5_10 : Int32) =>
              xlet (v5_10 + (1)) fun x11 =>
              fX8_netDebits_L5 N s0 K71 n v1_10 v2_10 v3_10 x11
            ) fun J65 =>
          if (s0.2.1 k9) = v1_8 then
            xlet (v3_8 - v6_8) fun x13 =>
            J65 v1_8 v2_8 x13 v5_8
          else
            J65 v1_8 v2_8 v3_8 v5_8
        ) fun J49 =>
      if (s0.1 k7) = v1_2 then
        xlet (v3_2 + x6) fun x15 =>
        J49 v1_2 v2_2 x15 v5_2 x6
      else
        J49 v1_2 v2_2 v3_2 v5_2 x6
def fX8_netDebits (N : Nat) (a1 : Int32) (a2 : Int32) (s0 : ProS) : Option (Int64) :=
  xjoin (fun (v3_1 : Int64) =>
      some v3_1
    ) fun K71 =>
  fX8_netDebits_L5 N s0 K71 N a1 a2 0 0
set_option maxRecDepth 100000 in
set_option maxHeartbeats 4000000 in
theorem kX8_netDebits (l : Launch) (D : va_G) (cA : Nat → ClassId) (ad : Nat → Nat) (h0 : Nat → Nat) (sz N : Nat) (a1 : Int32) (a2 : Int32) (s0 : ProS) (q : Int64) (h : fX8_netDebits N a1 a2 s0 = some q) : zM l yX8_netDebits cX8_netDebits 8 (some .long) ({ frames := 1, cells := 0, slots := 0, locals := 24 }) D cA ad (ProW cA h0 s0) sz [.ref (h0 0), .int a1, .int a2] (some (.long q)) (ProW cA h0 s0) := by
  generalize erm : ({ frames := 1, cells := 0, slots := 0, locals := 24 } : Room) = rm
  refine zMet (by decide) (Nat.le_of_ble_eq_true rfl) ?_
  intro p e s m below meth c hx hb hr hlocks hml hts hown hin hK hP A eA hD hS hA hsz hN hE ls hl
  have hl : lv_has ls 8 [(0, .ref (h0 0)), (1, .int a1), (2, .int a2)] := hl
  clear eA
  rw [fX8_netDebits] at h
  refine lv_lconst (v := 0) hx hb dX8_netDebits_0 (by decide) ?_
  refine lv_lstore_n (lv' := [(3, .long 0), (0, .ref (h0 0)), (1, .int a1), (2, .int a2)]) hx hb dX8_netDebits_1 rfl hl (by decide) rfl (fun ls hl => ?_)
  refine lv_iconst (v := 0) hx hb dX8_netDebits_2 (by decide) ?_
  refine lv_istore (lv' := [(5, .int 0), (3, .long 0), (0, .ref (h0 0)), (1, .int a1), (2, .int a2)]) hx hb dX8_netDebits_3 hl (by decide) rfl (fun ls hl => ?_)
  obtain ⟨K71, eK71, h⟩ := x_join h
  have hJ_K71 : ∀ (v3_1 : Int64) (H : Heap) (locs : List Loc), va_P D vwCl (ProW cA h0 s0) H → va_D A (ProW cA h0 s0) → va_S A s.heap H locs → ∀ ls : Array Slot, lv_has ls 8 [(3, .long v3_1)] → K71 v3_1 = some q → W p l e rm s m ([.ref (h0 0), .int a1, .int a2] : List Value).toArray below meth c H locs 0 0 (MQ below (xQ D cA A (ProW cA h0 s0) (some (.long q))) ([.ref (h0 0), .int a1, .int a2] : List Value).toArray s 0 0 A) (F0 m 71 ls []) := by
    clear h hP hD hS hl
    intro v3_1 H locs hP hD hS ls hl h
    rw [eK71] at h
    refine lv_lload_n hx hb dX8_netDebits_71 rfl (lv_at hl 0 rfl) ?_
    have h := Option.some.inj h
    subst h
    exact xLret hx hb hr hlocks hP hK hD hS dX8_netDebits_72
  have hL5 : ∀ (n : Nat) (v1_2 : Int32) (v2_2 : Int32) (v3_2 : Int64) (v5_2 : Int32) (H : Heap) (locs : List Loc), va_P D vwCl (ProW cA h0 s0) H → va_D A (ProW cA h0 s0) → va_S A s.heap H locs → ∀ ls : Array Slot, lv_has ls 8 [(0, .ref (h0 0)), (1, .int v1_2), (2, .int v2_2), (3, .long v3_2), (5, .int v5_2)] → fX8_netDebits_L5 N s0 K71 n v1_2 v2_2 v3_2 v5_2 = some q → W p l e rm s m ([.ref (h0 0), .int a1, .int a2] : List Value).toArray below meth c H locs 0 0 (MQ below (xQ D cA A (ProW cA h0 s0) (some (.long q))) ([.ref (h0 0), .int a1, .int a2] : List Value).toArray s 0 0 A) (F0 m 5 ls []) := by
    clear h hP hD hS hl
    intro n
    induction n with
    | zero => intro v1_2 v2_2 v3_2 v5_2 H locs hP hD hS ls hl h; rw [fX8_netDebits_L5] at h; cases h
    | succ n ih =>
      intro v1_2 v2_2 v3_2 v5_2 H locs hP hD hS ls hl h
      rw [fX8_netDebits_L5] at h
      refine lv_iload hx hb dX8_netDebits_5 (lv_at hl 4 rfl) ?_
      refine lv_aload_n hx hb dX8_netDebits_7 rfl (lv_at hl 0 rfl) ?_
      refine va_get (D := D) (ci := 8) (v := .int s0.2.2.2.2.2.2) (C := RX8) (T := TX8) (N := 7) hx hb hts iX8 hown hK hP 0 rfl rfl 6 (by decide) (hts _ qfl_X8_36) (fun _ h9 => h9) rfl dX8_netDebits_8 ?_
      refine lv_icmp_ge (tgt := 71) hx hb dX8_netDebits_11 (by decide) (fun c3 => ?_) (fun c3 => ?_)
      · have h := x_t h c3
        exact hJ_K71 v3_2 _ _ hP hD hS _ (lv_sub hl [3] rfl) h
      · have h := x_f h c3
        refine lv_aload_n hx hb dX8_netDebits_14 rfl (lv_at hl 0 rfl) ?_
        refine va_get (D := D) (ci := 8) (v := .ref (h0 3)) (C := RX8) (T := TX8) (N := 7) hx hb hts iX8 hown hK hP 0 rfl rfl 2 (by decide) (hts _ qfl_X8_18) (fun _ h9 => h9) rfl dX8_netDebits_15 ?_
        refine lv_iload hx hb dX8_netDebits_18 (lv_at hl 4 rfl) ?_
        obtain ⟨k4, hk4, h⟩ := x_rd h
        refine xIald hx hb hK hP 3 0 rfl rfl hk4 dX8_netDebits_20 ?_
        refine lv_i2l hx hb dX8_netDebits_21 rfl ?_
        refine lv_aload_n hx hb dX8_netDebits_22 rfl (lv_at hl 0 rfl) ?_
        refine lv_iload hx hb dX8_netDebits_23 (lv_at hl 4 rfl) ?_
        refine lv_iload_n hx hb dX8_netDebits_25 rfl (lv_at hl 2 rfl) ?_
        obtain ⟨q5, c5, h⟩ := x_call h
        refine xCall (w2 := ProW cA h0 s0) (zRunV (n := 2) (As := [.int v5_2, .int v2_2]) (rest := [.long (Int32.toInt64 (s0.2.2.1 k4))]) ⟨hx, hb, hml, hown, hts⟩ (kX8_timesWithin l D cA ad h0 _ N v5_2 v2_2 s0 q5 c5) qco_X8_timesWithin qml_X8_63 qin_X8_timesWithin qse_X8_timesWithin qini_X8 (by decide +kernel) (by rw [← erm]; rfl) hN hE hS hA hK hP hD [0, 1, 2, 3, 4, 5, 6] rfl rfl (q0 := 0) rfl rfl rfl rfl rfl hl.1 rfl (lv_room (Nat.le_of_ble_eq_true rfl)) dX8_netDebits_26 ⟨Nat.zero_le _, Nat.zero_le _⟩) hP hD hS hA [0, 1, 2, 3, 4, 5, 6] [] [0, 1, 2, 3, 4, 5, 6] rfl (wr := []) rfl rfl rfl rfl rfl (fun H locs hP hD hS => ?_)
        refine lv_i2l hx hb dX8_netDebits_29 rfl ?_
        refine lv_lmul hx hb dX8_netDebits_30 ?_
        refine lv_topl (fun x6 ex6 => ?_)
        have h := x_let h ex6
        refine lv_lstore (lv' := [(6, .long x6), (0, .ref (h0 0)), (1, .int v1_2), (2, .int v2_2), (3, .long v3_2), (5, .int v5_2)]) hx hb dX8_netDebits_31 hl (by decide) rfl (fun ls hl => ?_)
        refine lv_aload_n hx hb dX8_netDebits_33 rfl (lv_at hl 1 rfl) ?_
        refine va_get (D := D) (ci := 8) (v := .ref (h0 1)) (C := RX8) (T := TX8) (N := 7) hx hb hts iX8 hown hK hP 0 rfl rfl 0 (by decide) (hts _ qfl_X8_9) (fun _ h9 => h9) rfl dX8_netDebits_34 ?_
        refine lv_iload hx hb dX8_netDebits_37 (lv_at hl 5 rfl) ?_
        obtain ⟨k7, hk7, h⟩ := x_rd h
        refine xIald hx hb hK hP 1 0 rfl rfl hk7 dX8_netDebits_39 ?_
        refine lv_iload_n hx hb dX8_netDebits_40 rfl (lv_at hl 2 rfl) ?_
        obtain ⟨J49, eJ49, h⟩ := x_join h
        have hJ_J49 : ∀ (v1_8 : Int32) (v2_8 : Int32) (v3_8 : Int64) (v5_8 : Int32) (v6_8 : Int64) (H : Heap) (locs : List Loc), va_P D vwCl (ProW cA h0 s0) H → va_D A (ProW cA h0 s0) → va_S A s.heap H locs → ∀ ls : Array Slot, lv_has ls 8 [(0, .ref (h0 0)), (1, .int v1_8), (2, .int v2_8), (3, .long v3_8), (5, .int v5_8), (6, .long v6_8)] → J49 v1_8 v2_8 v3_8 v5_8 v6_8 = some q → W p l e rm s m ([.ref (h0 0), .int a1, .int a2] : List Value).toArray below meth c H locs 0 0 (MQ below (xQ D cA A (ProW cA h0 s0) (some (.long q))) ([.ref (h0 0), .int a1, .int a2] : List Value).toArray s 0 0 A) (F0 m 49 ls []) := by
          clear h hP hD hS hl
          intro v1_8 v2_8 v3_8 v5_8 v6_8 H locs hP hD hS ls hl h
          rw [eJ49] at h
          refine lv_aload_n hx hb dX8_netDebits_49 rfl (lv_at hl 0 rfl) ?_
          refine va_get (D := D) (ci := 8) (v := .ref (h0 2)) (C := RX8) (T := TX8) (N := 7) hx hb hts iX8 hown hK hP 0 rfl rfl 1 (by decide) (hts _ qfl_X8_15) (fun _ h9 => h9) rfl dX8_netDebits_50 ?_
          refine lv_iload hx hb dX8_netDebits_53 (lv_at hl 4 rfl) ?_
          obtain ⟨k9, hk9, h⟩ := x_rd h
          refine xIald hx hb hK hP 2 0 rfl rfl hk9 dX8_netDebits_55 ?_
          refine lv_iload_n hx hb dX8_netDebits_56 rfl (lv_at hl 1 rfl) ?_
          obtain ⟨J65, eJ65, h⟩ := x_join h
          have hJ_J65 : ∀ (v1_10 : Int32) (v2_10 : Int32) (v3_10 : Int64) (v5_10 : Int32) (H : Heap) (locs : List Loc), va_P D vwCl (ProW cA h0 s0) H → va_D A (ProW cA h0 s0) → va_S A s.heap H locs → ∀ ls : Array Slot, lv_has ls 8 [(0, .ref (h0 0)), (1, .int v1_10), (2, .int v2_10), (3, .long v3_10), (5, .int v5_10)] → J65 v1_10 v2_10 v3_10 v5_10 = some q → W p l e rm s m ([.ref (h0 0), .int a1, .int a2] : List Value).toArray below meth c H locs 0 0 (MQ below (xQ D cA A (ProW cA h0 s0) (some (.long q))) ([.ref (h0 0), .int a1, .int a2] : List Value).toArray s 0 0 A) (F0 m 65 ls []) := by
            clear h hP hD hS hl
            intro v1_10 v2_10 v3_10 v5_10 H locs hP hD hS ls hl h
            rw [eJ65] at h
            obtain ⟨x11, ex11⟩ : ∃ y : Int32, y = v5_10 + (1) := ⟨_, rfl⟩
            have h := x_let h ex11
            refine lv_iinc (v := x11) (lv' := [(5, .int x11), (0, .ref (h0 0)), (1, .int v1_10), (2, .int v2_10), (3, .long v3_10)]) hx hb dX8_netDebits_65 hl (k := 4) rfl (by rw [ex11]; rfl) (by decide) rfl (fun ls hl => ?_)
            refine lv_goto (tgt := 5) hx hb dX8_netDebits_68 (by decide) ?_
            exact ih v1_10 v2_10 v3_10 x11 _ _ hP hD hS _ (lv_sub hl [1, 2, 3, 4, 0] rfl) h
          refine lv_icmp_ne (tgt := 65) hx hb dX8_netDebits_57 (by decide) (fun c12 => ?_) (fun c12 => ?_)
          · have h := x_f h c12
            exact hJ_J65 v1_8 v2_8 v3_8 v5_8 _ _ hP hD hS _ (lv_sub hl [0, 1, 2, 3, 4] rfl) h
          · have h := x_t h c12
            refine lv_lload_n hx hb dX8_netDebits_60 rfl (lv_at hl 3 rfl) ?_
            refine lv_lload hx hb dX8_netDebits_61 (lv_at hl 5 rfl) ?_
            refine lv_lsub hx hb dX8_netDebits_63 ?_
            refine lv_topl (fun x13 ex13 => ?_)
            have h := x_let h ex13
            refine lv_lstore_n (lv' := [(3, .long x13), (0, .ref (h0 0)), (1, .int v1_8), (2, .int v2_8), (5, .int v5_8), (6, .long v6_8)]) hx hb dX8_netDebits_64 rfl hl (by decide) rfl (fun ls hl => ?_)
            exact hJ_J65 v1_8 v2_8 x13 v5_8 _ _ hP hD hS _ (lv_sub hl [1, 2, 3, 0, 4] rfl) h
        refine lv_icmp_ne (tgt := 49) hx hb dX8_netDebits_41 (by decide) (fun c14 => ?_) (fun c14 => ?_)
        · have h := x_f h c14
          exact hJ_J49 v1_2 v2_2 v3_2 v5_2 x6 _ _ hP hD hS _ (lv_sub hl [1, 2, 3, 4, 5, 0] rfl) h
        · have h := x_t h c14
          refine lv_lload_n hx hb dX8_netDebits_44 rfl (lv_at hl 4 rfl) ?_
          refine lv_lload hx hb dX8_netDebits_45 (lv_at hl 0 rfl) ?_
          refine lv_ladd hx hb dX8_netDebits_47 ?_
          refine lv_topl (fun x15 ex15 => ?_)
          have h := x_let h ex15
          refine lv_lstore_n (lv' := [(3, .long x15), (6, .long x6), (0, .ref (h0 0)), (1, .int v1_2), (2, .int v2_2), (5, .int v5_2)]) hx hb dX8_netDebits_48 rfl hl (by decide) rfl (fun ls hl => ?_)
          exact hJ_J49 v1_2 v2_2 x15 v5_2 x6 _ _ hP hD hS _ (lv_sub hl [2, 3, 4, 0, 5, 1] rfl) h
  exact hL5 N a1 a2 0 0 _ _ hP hD hS _ (lv_sub hl [2, 3, 4, 1, 0] rfl) h
