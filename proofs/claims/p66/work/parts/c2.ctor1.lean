/-! ===== constructors that run straight ===== -/
set_option maxRecDepth 100000 in
set_option maxHeartbeats 4000000 in
theorem nX6_init (l : Launch) (D : va_G) (cA : Nat → ClassId) (ad ae : Nat → Nat) (b sz : Nat) : nM l yX6_init cX6_init 1 ({ frames := 1, cells := 5, slots := 100, locals := 14 }) D cA ad (b, .inr (6, [.null, .null, .null, .null, .null, .int 0])) sz (fun u : (Nat → Nat) × JouS => u.1 0 = b ∧ RJ u.2 sJ0) (fun u => JouW cA u.1 u.2) 5 100 := by
  generalize erm : ({ frames := 1, cells := 5, slots := 100, locals := 14 } : Room) = rm
  refine nMet (by decide) (Nat.le_of_ble_eq_true rfl) ?_
  intro p e s m below meth c hx hb hr hlocks hml hts hown hin hK hP A eA hD hS hA hsz hN hE ls hl
  have hl : lv_has ls 1 [(0, .ref b)] := hl
  clear eA
  refine lv_aload_n hx hb dX6_init_0 rfl (lv_at hl 0 rfl) ?_
  refine W.objInit hx hb hown (hts _ qmo_X6) (hts _ qio) (hts _ qoo) rfl (by rw [hml]; exact hl.1) rfl dX6_init_1 (by rw [← erm]; exact Nat.le_of_ble_eq_true rfl) (by rw [← erm]; exact Nat.le_of_ble_eq_true rfl) ?_
  refine lv_aload_n hx hb dX6_init_4 rfl (lv_at hl 0 rfl) ?_
  refine lv_bipush (v := 20) hx hb dX6_init_5 (by decide) ?_
  refine nNewa (atype := .int) (ty := .int) hx hb (hts _ qar_int) rfl 0 (c0 := cA 0) rfl nRAi hK hP hD hS hA (N' := 20) (a0 := (20, .inl (fun _ => 0))) (fun _ => rfl) (by decide) (by decide) (by decide) (by rw [← erm]; exact Nat.le_of_ble_eq_true rfl) (by rw [← erm]; exact Nat.le_of_ble_eq_true rfl) dX6_init_7 (fun q1 H hP hD hS => ?_)
  have hP : va_P D vwCl ([(b, .inr (6, [.null, .null, .null, .null, .null, .int 0])), (q1, .inl (cA 0, 20, .inl (fun _ => 0)))]) H := hP
  have hD : va_D A ([(b, .inr (6, [.null, .null, .null, .null, .null, .int 0])), (q1, .inl (cA 0, 20, .inl (fun _ => 0)))]) := hD
  refine va_putF (D := D) (ci := 6) (v := .ref q1) (ty := .array .int) (C := RX6) (T := TX6) (N := 6) hx hb hts iX6 tyX6 tyX6_ok nmX6 hown hK hP hD hS 0 rfl rfl 0 (by decide) (hts _ qfl_X6_9) (fun _ h9 => h9) rfl hin rfl (by decide +kernel) rfl rfl (Nat.le_of_ble_eq_true rfl) dX6_init_9 (fun H locs hP hD hS => ?_)
  have hP : va_P D vwCl ([(b, .inr (6, [.ref q1, .null, .null, .null, .null, .int 0])), (q1, .inl (cA 0, 20, .inl (fun _ => 0)))]) H := hP
  have hD : va_D A ([(b, .inr (6, [.ref q1, .null, .null, .null, .null, .int 0])), (q1, .inl (cA 0, 20, .inl (fun _ => 0)))]) := hD
  refine lv_aload_n hx hb dX6_init_12 rfl (lv_at hl 0 rfl) ?_
  refine lv_bipush (v := 20) hx hb dX6_init_13 (by decide) ?_
  refine nNewa (atype := .int) (ty := .int) hx hb (hts _ qar_int) rfl 0 (c0 := cA 0) rfl nRAi hK hP hD hS hA (N' := 20) (a0 := (20, .inl (fun _ => 0))) (fun _ => rfl) (by decide) (by decide) (by decide) (by rw [← erm]; exact Nat.le_of_ble_eq_true rfl) (by rw [← erm]; exact Nat.le_of_ble_eq_true rfl) dX6_init_15 (fun q2 H hP hD hS => ?_)
  have hP : va_P D vwCl ([(b, .inr (6, [.ref q1, .null, .null, .null, .null, .int 0])), (q1, .inl (cA 0, 20, .inl (fun _ => 0))), (q2, .inl (cA 0, 20, .inl (fun _ => 0)))]) H := hP
  have hD : va_D A ([(b, .inr (6, [.ref q1, .null, .null, .null, .null, .int 0])), (q1, .inl (cA 0, 20, .inl (fun _ => 0))), (q2, .inl (cA 0, 20, .inl (fun _ => 0)))]) := hD
  refine va_putF (D := D) (ci := 6) (v := .ref q2) (ty := .array .int) (C := RX6) (T := TX6) (N := 6) hx hb hts iX6 tyX6 tyX6_ok nmX6 hown hK hP hD hS 0 rfl rfl 1 (by decide) (hts _ qfl_X6_15) (fun _ h9 => h9) rfl hin rfl (by decide +kernel) rfl rfl (Nat.le_of_ble_eq_true rfl) dX6_init_17 (fun H locs hP hD hS => ?_)
  have hP : va_P D vwCl ([(b, .inr (6, [.ref q1, .ref q2, .null, .null, .null, .int 0])), (q1, .inl (cA 0, 20, .inl (fun _ => 0))), (q2, .inl (cA 0, 20, .inl (fun _ => 0)))]) H := hP
  have hD : va_D A ([(b, .inr (6, [.ref q1, .ref q2, .null, .null, .null, .int 0])), (q1, .inl (cA 0, 20, .inl (fun _ => 0))), (q2, .inl (cA 0, 20, .inl (fun _ => 0)))]) := hD
  refine lv_aload_n hx hb dX6_init_20 rfl (lv_at hl 0 rfl) ?_
  refine lv_bipush (v := 20) hx hb dX6_init_21 (by decide) ?_
  refine nNewa (atype := .long) (ty := .long) hx hb (hts _ qar_long) rfl 2 (c0 := cA 2) rfl nRAl hK hP hD hS hA (N' := 20) (a0 := (20, .inr (.inl (fun _ => 0)))) (fun _ => rfl) (by decide) (by decide) (by decide) (by rw [← erm]; exact Nat.le_of_ble_eq_true rfl) (by rw [← erm]; exact Nat.le_of_ble_eq_true rfl) dX6_init_23 (fun q3 H hP hD hS => ?_)
  have hP : va_P D vwCl ([(b, .inr (6, [.ref q1, .ref q2, .null, .null, .null, .int 0])), (q1, .inl (cA 0, 20, .inl (fun _ => 0))), (q2, .inl (cA 0, 20, .inl (fun _ => 0))), (q3, .inl (cA 2, 20, .inr (.inl (fun _ => 0))))]) H := hP
  have hD : va_D A ([(b, .inr (6, [.ref q1, .ref q2, .null, .null, .null, .int 0])), (q1, .inl (cA 0, 20, .inl (fun _ => 0))), (q2, .inl (cA 0, 20, .inl (fun _ => 0))), (q3, .inl (cA 2, 20, .inr (.inl (fun _ => 0))))]) := hD
  refine va_putF (D := D) (ci := 6) (v := .ref q3) (ty := .array .long) (C := RX6) (T := TX6) (N := 6) hx hb hts iX6 tyX6 tyX6_ok nmX6 hown hK hP hD hS 0 rfl rfl 2 (by decide) (hts _ qfl_X6_18) (fun _ h9 => h9) rfl hin rfl (by decide +kernel) rfl rfl (Nat.le_of_ble_eq_true rfl) dX6_init_25 (fun H locs hP hD hS => ?_)
  have hP : va_P D vwCl ([(b, .inr (6, [.ref q1, .ref q2, .ref q3, .null, .null, .int 0])), (q1, .inl (cA 0, 20, .inl (fun _ => 0))), (q2, .inl (cA 0, 20, .inl (fun _ => 0))), (q3, .inl (cA 2, 20, .inr (.inl (fun _ => 0))))]) H := hP
  have hD : va_D A ([(b, .inr (6, [.ref q1, .ref q2, .ref q3, .null, .null, .int 0])), (q1, .inl (cA 0, 20, .inl (fun _ => 0))), (q2, .inl (cA 0, 20, .inl (fun _ => 0))), (q3, .inl (cA 2, 20, .inr (.inl (fun _ => 0))))]) := hD
  refine lv_aload_n hx hb dX6_init_28 rfl (lv_at hl 0 rfl) ?_
  refine lv_bipush (v := 20) hx hb dX6_init_29 (by decide) ?_
  refine nNewa (atype := .int) (ty := .int) hx hb (hts _ qar_int) rfl 0 (c0 := cA 0) rfl nRAi hK hP hD hS hA (N' := 20) (a0 := (20, .inl (fun _ => 0))) (fun _ => rfl) (by decide) (by decide) (by decide) (by rw [← erm]; exact Nat.le_of_ble_eq_true rfl) (by rw [← erm]; exact Nat.le_of_ble_eq_true rfl) dX6_init_31 (fun q4 H hP hD hS => ?_)
  have hP : va_P D vwCl ([(b, .inr (6, [.ref q1, .ref q2, .ref q3, .null, .null, .int 0])), (q1, .inl (cA 0, 20, .inl (fun _ => 0))), (q2, .inl (cA 0, 20, .inl (fun _ => 0))), (q3, .inl (cA 2, 20, .inr (.inl (fun _ => 0)))), (q4, .inl (cA 0, 20, .inl (fun _ => 0)))]) H := hP
  have hD : va_D A ([(b, .inr (6, [.ref q1, .ref q2, .ref q3, .null, .null, .int 0])), (q1, .inl (cA 0, 20, .inl (fun _ => 0))), (q2, .inl (cA 0, 20, .inl (fun _ => 0))), (q3, .inl (cA 2, 20, .inr (.inl (fun _ => 0)))), (q4, .inl (cA 0, 20, .inl (fun _ => 0)))]) := hD
  refine va_putF (D := D) (ci := 6) (v := .ref q4) (ty := .array .int) (C := RX6) (T := TX6) (N := 6) hx hb hts iX6 tyX6 tyX6_ok nmX6 hown hK hP hD hS 0 rfl rfl 3 (by decide) (hts _ qfl_X6_22) (fun _ h9 => h9) rfl hin rfl (by decide +kernel) rfl rfl (Nat.le_of_ble_eq_true rfl) dX6_init_33 (fun H locs hP hD hS => ?_)
  have hP : va_P D vwCl ([(b, .inr (6, [.ref q1, .ref q2, .ref q3, .ref q4, .null, .int 0])), (q1, .inl (cA 0, 20, .inl (fun _ => 0))), (q2, .inl (cA 0, 20, .inl (fun _ => 0))), (q3, .inl (cA 2, 20, .inr (.inl (fun _ => 0)))), (q4, .inl (cA 0, 20, .inl (fun _ => 0)))]) H := hP
  have hD : va_D A ([(b, .inr (6, [.ref q1, .ref q2, .ref q3, .ref q4, .null, .int 0])), (q1, .inl (cA 0, 20, .inl (fun _ => 0))), (q2, .inl (cA 0, 20, .inl (fun _ => 0))), (q3, .inl (cA 2, 20, .inr (.inl (fun _ => 0)))), (q4, .inl (cA 0, 20, .inl (fun _ => 0)))]) := hD
  refine lv_aload_n hx hb dX6_init_36 rfl (lv_at hl 0 rfl) ?_
  refine lv_bipush (v := 20) hx hb dX6_init_37 (by decide) ?_
  refine nNewa (atype := .int) (ty := .int) hx hb (hts _ qar_int) rfl 0 (c0 := cA 0) rfl nRAi hK hP hD hS hA (N' := 20) (a0 := (20, .inl (fun _ => 0))) (fun _ => rfl) (by decide) (by decide) (by decide) (by rw [← erm]; exact Nat.le_of_ble_eq_true rfl) (by rw [← erm]; exact Nat.le_of_ble_eq_true rfl) dX6_init_39 (fun q5 H hP hD hS => ?_)
  have hP : va_P D vwCl ([(b, .inr (6, [.ref q1, .ref q2, .ref q3, .ref q4, .null, .int 0])), (q1, .inl (cA 0, 20, .inl (fun _ => 0))), (q2, .inl (cA 0, 20, .inl (fun _ => 0))), (q3, .inl (cA 2, 20, .inr (.inl (fun _ => 0)))), (q4, .inl (cA 0, 20, .inl (fun _ => 0))), (q5, .inl (cA 0, 20, .inl (fun _ => 0)))]) H := hP
  have hD : va_D A ([(b, .inr (6, [.ref q1, .ref q2, .ref q3, .ref q4, .null, .int 0])), (q1, .inl (cA 0, 20, .inl (fun _ => 0))), (q2, .inl (cA 0, 20, .inl (fun _ => 0))), (q3, .inl (cA 2, 20, .inr (.inl (fun _ => 0)))), (q4, .inl (cA 0, 20, .inl (fun _ => 0))), (q5, .inl (cA 0, 20, .inl (fun _ => 0)))]) := hD
  refine va_putF (D := D) (ci := 6) (v := .ref q5) (ty := .array .int) (C := RX6) (T := TX6) (N := 6) hx hb hts iX6 tyX6 tyX6_ok nmX6 hown hK hP hD hS 0 rfl rfl 4 (by decide) (hts _ qfl_X6_25) (fun _ h9 => h9) rfl hin rfl (by decide +kernel) rfl rfl (Nat.le_of_ble_eq_true rfl) dX6_init_41 (fun H locs hP hD hS => ?_)
  have hP : va_P D vwCl ([(b, .inr (6, [.ref q1, .ref q2, .ref q3, .ref q4, .ref q5, .int 0])), (q1, .inl (cA 0, 20, .inl (fun _ => 0))), (q2, .inl (cA 0, 20, .inl (fun _ => 0))), (q3, .inl (cA 2, 20, .inr (.inl (fun _ => 0)))), (q4, .inl (cA 0, 20, .inl (fun _ => 0))), (q5, .inl (cA 0, 20, .inl (fun _ => 0)))]) H := hP
  have hD : va_D A ([(b, .inr (6, [.ref q1, .ref q2, .ref q3, .ref q4, .ref q5, .int 0])), (q1, .inl (cA 0, 20, .inl (fun _ => 0))), (q2, .inl (cA 0, 20, .inl (fun _ => 0))), (q3, .inl (cA 2, 20, .inr (.inl (fun _ => 0)))), (q4, .inl (cA 0, 20, .inl (fun _ => 0))), (q5, .inl (cA 0, 20, .inl (fun _ => 0)))]) := hD
  exact nRet (F := fun u : (Nat → Nat) × JouS => JouW cA u.1 u.2) (px := fun u => u.1 0 = b ∧ RJ u.2 sJ0) (hAt [b, q1, q2, q3, q4, q5], (fun _ => 0, fun _ => 0, fun _ => 0, fun _ => 0, fun _ => 0, 0)) hx hb hr hlocks ⟨rfl, rfl, fun e h1 h2 => absurd h2 (Nat.not_lt_zero _)⟩ hP hK hD hS dX6_init_44
set_option maxRecDepth 100000 in
set_option maxHeartbeats 4000000 in
theorem nX8_init (l : Launch) (D : va_G) (cA : Nat → ClassId) (ad ae : Nat → Nat) (b sz : Nat) : nM l yX8_init cX8_init 1 ({ frames := 1, cells := 6, slots := 36, locals := 14 }) D cA ad (b, .inr (8, [.null, .null, .null, .null, .null, .null, .int 0])) sz (fun u : (Nat → Nat) × ProS => u.1 0 = b ∧ RP u.2 []) (fun u => ProW cA u.1 u.2) 6 36 := by
  generalize erm : ({ frames := 1, cells := 6, slots := 36, locals := 14 } : Room) = rm
  refine nMet (by decide) (Nat.le_of_ble_eq_true rfl) ?_
  intro p e s m below meth c hx hb hr hlocks hml hts hown hin hK hP A eA hD hS hA hsz hN hE ls hl
  have hl : lv_has ls 1 [(0, .ref b)] := hl
  clear eA
  refine lv_aload_n hx hb dX8_init_0 rfl (lv_at hl 0 rfl) ?_
  refine W.objInit hx hb hown (hts _ qmo_X8) (hts _ qio) (hts _ qoo) rfl (by rw [hml]; exact hl.1) rfl dX8_init_1 (by rw [← erm]; exact Nat.le_of_ble_eq_true rfl) (by rw [← erm]; exact Nat.le_of_ble_eq_true rfl) ?_
  refine lv_aload_n hx hb dX8_init_4 rfl (lv_at hl 0 rfl) ?_
  refine lv_bipush (v := 6) hx hb dX8_init_5 (by decide) ?_
  refine nNewa (atype := .int) (ty := .int) hx hb (hts _ qar_int) rfl 0 (c0 := cA 0) rfl nRAi hK hP hD hS hA (N' := 6) (a0 := (6, .inl (fun _ => 0))) (fun _ => rfl) (by decide) (by decide) (by decide) (by rw [← erm]; exact Nat.le_of_ble_eq_true rfl) (by rw [← erm]; exact Nat.le_of_ble_eq_true rfl) dX8_init_7 (fun q1 H hP hD hS => ?_)
  have hP : va_P D vwCl ([(b, .inr (8, [.null, .null, .null, .null, .null, .null, .int 0])), (q1, .inl (cA 0, 6, .inl (fun _ => 0)))]) H := hP
  have hD : va_D A ([(b, .inr (8, [.null, .null, .null, .null, .null, .null, .int 0])), (q1, .inl (cA 0, 6, .inl (fun _ => 0)))]) := hD
  refine va_putF (D := D) (ci := 8) (v := .ref q1) (ty := .array .int) (C := RX8) (T := TX8) (N := 7) hx hb hts iX8 tyX8 tyX8_ok nmX8 hown hK hP hD hS 0 rfl rfl 0 (by decide) (hts _ qfl_X8_9) (fun _ h9 => h9) rfl hin rfl (by decide +kernel) rfl rfl (Nat.le_of_ble_eq_true rfl) dX8_init_9 (fun H locs hP hD hS => ?_)
  have hP : va_P D vwCl ([(b, .inr (8, [.ref q1, .null, .null, .null, .null, .null, .int 0])), (q1, .inl (cA 0, 6, .inl (fun _ => 0)))]) H := hP
  have hD : va_D A ([(b, .inr (8, [.ref q1, .null, .null, .null, .null, .null, .int 0])), (q1, .inl (cA 0, 6, .inl (fun _ => 0)))]) := hD
  refine lv_aload_n hx hb dX8_init_12 rfl (lv_at hl 0 rfl) ?_
  refine lv_bipush (v := 6) hx hb dX8_init_13 (by decide) ?_
  refine nNewa (atype := .int) (ty := .int) hx hb (hts _ qar_int) rfl 0 (c0 := cA 0) rfl nRAi hK hP hD hS hA (N' := 6) (a0 := (6, .inl (fun _ => 0))) (fun _ => rfl) (by decide) (by decide) (by decide) (by rw [← erm]; exact Nat.le_of_ble_eq_true rfl) (by rw [← erm]; exact Nat.le_of_ble_eq_true rfl) dX8_init_15 (fun q2 H hP hD hS => ?_)
  have hP : va_P D vwCl ([(b, .inr (8, [.ref q1, .null, .null, .null, .null, .null, .int 0])), (q1, .inl (cA 0, 6, .inl (fun _ => 0))), (q2, .inl (cA 0, 6, .inl (fun _ => 0)))]) H := hP
  have hD : va_D A ([(b, .inr (8, [.ref q1, .null, .null, .null, .null, .null, .int 0])), (q1, .inl (cA 0, 6, .inl (fun _ => 0))), (q2, .inl (cA 0, 6, .inl (fun _ => 0)))]) := hD
  refine va_putF (D := D) (ci := 8) (v := .ref q2) (ty := .array .int) (C := RX8) (T := TX8) (N := 7) hx hb hts iX8 tyX8 tyX8_ok nmX8 hown hK hP hD hS 0 rfl rfl 1 (by decide) (hts _ qfl_X8_15) (fun _ h9 => h9) rfl hin rfl (by decide +kernel) rfl rfl (Nat.le_of_ble_eq_true rfl) dX8_init_17 (fun H locs hP hD hS => ?_)
  have hP : va_P D vwCl ([(b, .inr (8, [.ref q1, .ref q2, .null, .null, .null, .null, .int 0])), (q1, .inl (cA 0, 6, .inl (fun _ => 0))), (q2, .inl (cA 0, 6, .inl (fun _ => 0)))]) H := hP
  have hD : va_D A ([(b, .inr (8, [.ref q1, .ref q2, .null, .null, .null, .null, .int 0])), (q1, .inl (cA 0, 6, .inl (fun _ => 0))), (q2, .inl (cA 0, 6, .inl (fun _ => 0)))]) := hD
  refine lv_aload_n hx hb dX8_init_20 rfl (lv_at hl 0 rfl) ?_
  refine lv_bipush (v := 6) hx hb dX8_init_21 (by decide) ?_
  refine nNewa (atype := .int) (ty := .int) hx hb (hts _ qar_int) rfl 0 (c0 := cA 0) rfl nRAi hK hP hD hS hA (N' := 6) (a0 := (6, .inl (fun _ => 0))) (fun _ => rfl) (by decide) (by decide) (by decide) (by rw [← erm]; exact Nat.le_of_ble_eq_true rfl) (by rw [← erm]; exact Nat.le_of_ble_eq_true rfl) dX8_init_23 (fun q3 H hP hD hS => ?_)
  have hP : va_P D vwCl ([(b, .inr (8, [.ref q1, .ref q2, .null, .null, .null, .null, .int 0])), (q1, .inl (cA 0, 6, .inl (fun _ => 0))), (q2, .inl (cA 0, 6, .inl (fun _ => 0))), (q3, .inl (cA 0, 6, .inl (fun _ => 0)))]) H := hP
  have hD : va_D A ([(b, .inr (8, [.ref q1, .ref q2, .null, .null, .null, .null, .int 0])), (q1, .inl (cA 0, 6, .inl (fun _ => 0))), (q2, .inl (cA 0, 6, .inl (fun _ => 0))), (q3, .inl (cA 0, 6, .inl (fun _ => 0)))]) := hD
  refine va_putF (D := D) (ci := 8) (v := .ref q3) (ty := .array .int) (C := RX8) (T := TX8) (N := 7) hx hb hts iX8 tyX8 tyX8_ok nmX8 hown hK hP hD hS 0 rfl rfl 2 (by decide) (hts _ qfl_X8_18) (fun _ h9 => h9) rfl hin rfl (by decide +kernel) rfl rfl (Nat.le_of_ble_eq_true rfl) dX8_init_25 (fun H locs hP hD hS => ?_)
  have hP : va_P D vwCl ([(b, .inr (8, [.ref q1, .ref q2, .ref q3, .null, .null, .null, .int 0])), (q1, .inl (cA 0, 6, .inl (fun _ => 0))), (q2, .inl (cA 0, 6, .inl (fun _ => 0))), (q3, .inl (cA 0, 6, .inl (fun _ => 0)))]) H := hP
  have hD : va_D A ([(b, .inr (8, [.ref q1, .ref q2, .ref q3, .null, .null, .null, .int 0])), (q1, .inl (cA 0, 6, .inl (fun _ => 0))), (q2, .inl (cA 0, 6, .inl (fun _ => 0))), (q3, .inl (cA 0, 6, .inl (fun _ => 0)))]) := hD
  refine lv_aload_n hx hb dX8_init_28 rfl (lv_at hl 0 rfl) ?_
  refine lv_bipush (v := 6) hx hb dX8_init_29 (by decide) ?_
  refine nNewa (atype := .int) (ty := .int) hx hb (hts _ qar_int) rfl 0 (c0 := cA 0) rfl nRAi hK hP hD hS hA (N' := 6) (a0 := (6, .inl (fun _ => 0))) (fun _ => rfl) (by decide) (by decide) (by decide) (by rw [← erm]; exact Nat.le_of_ble_eq_true rfl) (by rw [← erm]; exact Nat.le_of_ble_eq_true rfl) dX8_init_31 (fun q4 H hP hD hS => ?_)
  have hP : va_P D vwCl ([(b, .inr (8, [.ref q1, .ref q2, .ref q3, .null, .null, .null, .int 0])), (q1, .inl (cA 0, 6, .inl (fun _ => 0))), (q2, .inl (cA 0, 6, .inl (fun _ => 0))), (q3, .inl (cA 0, 6, .inl (fun _ => 0))), (q4, .inl (cA 0, 6, .inl (fun _ => 0)))]) H := hP
  have hD : va_D A ([(b, .inr (8, [.ref q1, .ref q2, .ref q3, .null, .null, .null, .int 0])), (q1, .inl (cA 0, 6, .inl (fun _ => 0))), (q2, .inl (cA 0, 6, .inl (fun _ => 0))), (q3, .inl (cA 0, 6, .inl (fun _ => 0))), (q4, .inl (cA 0, 6, .inl (fun _ => 0)))]) := hD
  refine va_putF (D := D) (ci := 8) (v := .ref q4) (ty := .array .int) (C := RX8) (T := TX8) (N := 7) hx hb hts iX8 tyX8 tyX8_ok nmX8 hown hK hP hD hS 0 rfl rfl 3 (by decide) (hts _ qfl_X8_21) (fun _ h9 => h9) rfl hin rfl (by decide +kernel) rfl rfl (Nat.le_of_ble_eq_true rfl) dX8_init_33 (fun H locs hP hD hS => ?_)
  have hP : va_P D vwCl ([(b, .inr (8, [.ref q1, .ref q2, .ref q3, .ref q4, .null, .null, .int 0])), (q1, .inl (cA 0, 6, .inl (fun _ => 0))), (q2, .inl (cA 0, 6, .inl (fun _ => 0))), (q3, .inl (cA 0, 6, .inl (fun _ => 0))), (q4, .inl (cA 0, 6, .inl (fun _ => 0)))]) H := hP
  have hD : va_D A ([(b, .inr (8, [.ref q1, .ref q2, .ref q3, .ref q4, .null, .null, .int 0])), (q1, .inl (cA 0, 6, .inl (fun _ => 0))), (q2, .inl (cA 0, 6, .inl (fun _ => 0))), (q3, .inl (cA 0, 6, .inl (fun _ => 0))), (q4, .inl (cA 0, 6, .inl (fun _ => 0)))]) := hD
  refine lv_aload_n hx hb dX8_init_36 rfl (lv_at hl 0 rfl) ?_
  refine lv_bipush (v := 6) hx hb dX8_init_37 (by decide) ?_
  refine nNewa (atype := .int) (ty := .int) hx hb (hts _ qar_int) rfl 0 (c0 := cA 0) rfl nRAi hK hP hD hS hA (N' := 6) (a0 := (6, .inl (fun _ => 0))) (fun _ => rfl) (by decide) (by decide) (by decide) (by rw [← erm]; exact Nat.le_of_ble_eq_true rfl) (by rw [← erm]; exact Nat.le_of_ble_eq_true rfl) dX8_init_39 (fun q5 H hP hD hS => ?_)
  have hP : va_P D vwCl ([(b, .inr (8, [.ref q1, .ref q2, .ref q3, .ref q4, .null, .null, .int 0])), (q1, .inl (cA 0, 6, .inl (fun _ => 0))), (q2, .inl (cA 0, 6, .inl (fun _ => 0))), (q3, .inl (cA 0, 6, .inl (fun _ => 0))), (q4, .inl (cA 0, 6, .inl (fun _ => 0))), (q5, .inl (cA 0, 6, .inl (fun _ => 0)))]) H := hP
  have hD : va_D A ([(b, .inr (8, [.ref q1, .ref q2, .ref q3, .ref q4, .null, .null, .int 0])), (q1, .inl (cA 0, 6, .inl (fun _ => 0))), (q2, .inl (cA 0, 6, .inl (fun _ => 0))), (q3, .inl (cA 0, 6, .inl (fun _ => 0))), (q4, .inl (cA 0, 6, .inl (fun _ => 0))), (q5, .inl (cA 0, 6, .inl (fun _ => 0)))]) := hD
  refine va_putF (D := D) (ci := 8) (v := .ref q5) (ty := .array .int) (C := RX8) (T := TX8) (N := 7) hx hb hts iX8 tyX8 tyX8_ok nmX8 hown hK hP hD hS 0 rfl rfl 4 (by decide) (hts _ qfl_X8_24) (fun _ h9 => h9) rfl hin rfl (by decide +kernel) rfl rfl (Nat.le_of_ble_eq_true rfl) dX8_init_41 (fun H locs hP hD hS => ?_)
  have hP : va_P D vwCl ([(b, .inr (8, [.ref q1, .ref q2, .ref q3, .ref q4, .ref q5, .null, .int 0])), (q1, .inl (cA 0, 6, .inl (fun _ => 0))), (q2, .inl (cA 0, 6, .inl (fun _ => 0))), (q3, .inl (cA 0, 6, .inl (fun _ => 0))), (q4, .inl (cA 0, 6, .inl (fun _ => 0))), (q5, .inl (cA 0, 6, .inl (fun _ => 0)))]) H := hP
  have hD : va_D A ([(b, .inr (8, [.ref q1, .ref q2, .ref q3, .ref q4, .ref q5, .null, .int 0])), (q1, .inl (cA 0, 6, .inl (fun _ => 0))), (q2, .inl (cA 0, 6, .inl (fun _ => 0))), (q3, .inl (cA 0, 6, .inl (fun _ => 0))), (q4, .inl (cA 0, 6, .inl (fun _ => 0))), (q5, .inl (cA 0, 6, .inl (fun _ => 0)))]) := hD
  refine lv_aload_n hx hb dX8_init_44 rfl (lv_at hl 0 rfl) ?_
  refine lv_bipush (v := 6) hx hb dX8_init_45 (by decide) ?_
  refine nNewa (atype := .int) (ty := .int) hx hb (hts _ qar_int) rfl 0 (c0 := cA 0) rfl nRAi hK hP hD hS hA (N' := 6) (a0 := (6, .inl (fun _ => 0))) (fun _ => rfl) (by decide) (by decide) (by decide) (by rw [← erm]; exact Nat.le_of_ble_eq_true rfl) (by rw [← erm]; exact Nat.le_of_ble_eq_true rfl) dX8_init_47 (fun q6 H hP hD hS => ?_)
  have hP : va_P D vwCl ([(b, .inr (8, [.ref q1, .ref q2, .ref q3, .ref q4, .ref q5, .null, .int 0])), (q1, .inl (cA 0, 6, .inl (fun _ => 0))), (q2, .inl (cA 0, 6, .inl (fun _ => 0))), (q3, .inl (cA 0, 6, .inl (fun _ => 0))), (q4, .inl (cA 0, 6, .inl (fun _ => 0))), (q5, .inl (cA 0, 6, .inl (fun _ => 0))), (q6, .inl (cA 0, 6, .inl (fun _ => 0)))]) H := hP
  have hD : va_D A ([(b, .inr (8, [.ref q1, .ref q2, .ref q3, .ref q4, .ref q5, .null, .int 0])), (q1, .inl (cA 0, 6, .inl (fun _ => 0))), (q2, .inl (cA 0, 6, .inl (fun _ => 0))), (q3, .inl (cA 0, 6, .inl (fun _ => 0))), (q4, .inl (cA 0, 6, .inl (fun _ => 0))), (q5, .inl (cA 0, 6, .inl (fun _ => 0))), (q6, .inl (cA 0, 6, .inl (fun _ => 0)))]) := hD
  refine va_putF (D := D) (ci := 8) (v := .ref q6) (ty := .array .int) (C := RX8) (T := TX8) (N := 7) hx hb hts iX8 tyX8 tyX8_ok nmX8 hown hK hP hD hS 0 rfl rfl 5 (by decide) (hts _ qfl_X8_27) (fun _ h9 => h9) rfl hin rfl (by decide +kernel) rfl rfl (Nat.le_of_ble_eq_true rfl) dX8_init_49 (fun H locs hP hD hS => ?_)
  have hP : va_P D vwCl ([(b, .inr (8, [.ref q1, .ref q2, .ref q3, .ref q4, .ref q5, .ref q6, .int 0])), (q1, .inl (cA 0, 6, .inl (fun _ => 0))), (q2, .inl (cA 0, 6, .inl (fun _ => 0))), (q3, .inl (cA 0, 6, .inl (fun _ => 0))), (q4, .inl (cA 0, 6, .inl (fun _ => 0))), (q5, .inl (cA 0, 6, .inl (fun _ => 0))), (q6, .inl (cA 0, 6, .inl (fun _ => 0)))]) H := hP
  have hD : va_D A ([(b, .inr (8, [.ref q1, .ref q2, .ref q3, .ref q4, .ref q5, .ref q6, .int 0])), (q1, .inl (cA 0, 6, .inl (fun _ => 0))), (q2, .inl (cA 0, 6, .inl (fun _ => 0))), (q3, .inl (cA 0, 6, .inl (fun _ => 0))), (q4, .inl (cA 0, 6, .inl (fun _ => 0))), (q5, .inl (cA 0, 6, .inl (fun _ => 0))), (q6, .inl (cA 0, 6, .inl (fun _ => 0)))]) := hD
  exact nRet (F := fun u : (Nat → Nat) × ProS => ProW cA u.1 u.2) (px := fun u => u.1 0 = b ∧ RP u.2 []) (hAt [b, q1, q2, q3, q4, q5, q6], (fun _ => 0, fun _ => 0, fun _ => 0, fun _ => 0, fun _ => 0, fun _ => 0, 0)) hx hb hr hlocks ⟨rfl, rfl, fun j x h => nil_at h⟩ hP hK hD hS dX8_init_52
set_option maxRecDepth 100000 in
set_option maxHeartbeats 4000000 in
theorem nX11_init (l : Launch) (D : va_G) (cA : Nat → ClassId) (ad ae : Nat → Nat) (b sz : Nat) : nM l yX11_init cX11_init 1 ({ frames := 1, cells := 2, slots := 16, locals := 14 }) D cA ad (b, .inr (10, [.null, .null, .int 0])) sz (fun u : (Nat → Nat) × WarS => u.1 0 = b ∧ RW u.2 []) (fun u => WarW cA u.1 u.2) 2 16 := by
  generalize erm : ({ frames := 1, cells := 2, slots := 16, locals := 14 } : Room) = rm
  refine nMet (by decide) (Nat.le_of_ble_eq_true rfl) ?_
  intro p e s m below meth c hx hb hr hlocks hml hts hown hin hK hP A eA hD hS hA hsz hN hE ls hl
  have hl : lv_has ls 1 [(0, .ref b)] := hl
  clear eA
  refine lv_aload_n hx hb dX11_init_0 rfl (lv_at hl 0 rfl) ?_
  refine W.objInit hx hb hown (hts _ qmo_X11) (hts _ qio) (hts _ qoo) rfl (by rw [hml]; exact hl.1) rfl dX11_init_1 (by rw [← erm]; exact Nat.le_of_ble_eq_true rfl) (by rw [← erm]; exact Nat.le_of_ble_eq_true rfl) ?_
  refine lv_aload_n hx hb dX11_init_4 rfl (lv_at hl 0 rfl) ?_
  refine lv_bipush (v := 8) hx hb dX11_init_5 (by decide) ?_
  refine nNewa (atype := .int) (ty := .int) hx hb (hts _ qar_int) rfl 0 (c0 := cA 0) rfl nRAi hK hP hD hS hA (N' := 8) (a0 := (8, .inl (fun _ => 0))) (fun _ => rfl) (by decide) (by decide) (by decide) (by rw [← erm]; exact Nat.le_of_ble_eq_true rfl) (by rw [← erm]; exact Nat.le_of_ble_eq_true rfl) dX11_init_7 (fun q1 H hP hD hS => ?_)
  have hP : va_P D vwCl ([(b, .inr (10, [.null, .null, .int 0])), (q1, .inl (cA 0, 8, .inl (fun _ => 0)))]) H := hP
  have hD : va_D A ([(b, .inr (10, [.null, .null, .int 0])), (q1, .inl (cA 0, 8, .inl (fun _ => 0)))]) := hD
  refine va_putF (D := D) (ci := 10) (v := .ref q1) (ty := .array .int) (C := RX11) (T := TX11) (N := 3) hx hb hts iX11 tyX11 tyX11_ok nmX11 hown hK hP hD hS 0 rfl rfl 0 (by decide) (hts _ qfl_X11_9) (fun _ h9 => h9) rfl hin rfl (by decide +kernel) rfl rfl (Nat.le_of_ble_eq_true rfl) dX11_init_9 (fun H locs hP hD hS => ?_)
  have hP : va_P D vwCl ([(b, .inr (10, [.ref q1, .null, .int 0])), (q1, .inl (cA 0, 8, .inl (fun _ => 0)))]) H := hP
  have hD : va_D A ([(b, .inr (10, [.ref q1, .null, .int 0])), (q1, .inl (cA 0, 8, .inl (fun _ => 0)))]) := hD
  refine lv_aload_n hx hb dX11_init_12 rfl (lv_at hl 0 rfl) ?_
  refine lv_bipush (v := 8) hx hb dX11_init_13 (by decide) ?_
  refine nNewa (atype := .int) (ty := .int) hx hb (hts _ qar_int) rfl 0 (c0 := cA 0) rfl nRAi hK hP hD hS hA (N' := 8) (a0 := (8, .inl (fun _ => 0))) (fun _ => rfl) (by decide) (by decide) (by decide) (by rw [← erm]; exact Nat.le_of_ble_eq_true rfl) (by rw [← erm]; exact Nat.le_of_ble_eq_true rfl) dX11_init_15 (fun q2 H hP hD hS => ?_)
  have hP : va_P D vwCl ([(b, .inr (10, [.ref q1, .null, .int 0])), (q1, .inl (cA 0, 8, .inl (fun _ => 0))), (q2, .inl (cA 0, 8, .inl (fun _ => 0)))]) H := hP
  have hD : va_D A ([(b, .inr (10, [.ref q1, .null, .int 0])), (q1, .inl (cA 0, 8, .inl (fun _ => 0))), (q2, .inl (cA 0, 8, .inl (fun _ => 0)))]) := hD
  refine va_putF (D := D) (ci := 10) (v := .ref q2) (ty := .array .int) (C := RX11) (T := TX11) (N := 3) hx hb hts iX11 tyX11 tyX11_ok nmX11 hown hK hP hD hS 0 rfl rfl 1 (by decide) (hts _ qfl_X11_15) (fun _ h9 => h9) rfl hin rfl (by decide +kernel) rfl rfl (Nat.le_of_ble_eq_true rfl) dX11_init_17 (fun H locs hP hD hS => ?_)
  have hP : va_P D vwCl ([(b, .inr (10, [.ref q1, .ref q2, .int 0])), (q1, .inl (cA 0, 8, .inl (fun _ => 0))), (q2, .inl (cA 0, 8, .inl (fun _ => 0)))]) H := hP
  have hD : va_D A ([(b, .inr (10, [.ref q1, .ref q2, .int 0])), (q1, .inl (cA 0, 8, .inl (fun _ => 0))), (q2, .inl (cA 0, 8, .inl (fun _ => 0)))]) := hD
  exact nRet (F := fun u : (Nat → Nat) × WarS => WarW cA u.1 u.2) (px := fun u => u.1 0 = b ∧ RW u.2 []) (hAt [b, q1, q2], (fun _ => 0, fun _ => 0, 0)) hx hb hr hlocks ⟨rfl, rfl, fun j x h => nil_at h⟩ hP hK hD hS dX11_init_20
set_option maxRecDepth 100000 in
set_option maxHeartbeats 4000000 in
theorem nX2_init (l : Launch) (D : va_G) (cA : Nat → ClassId) (ad ae : Nat → Nat) (b sz : Nat) : nM l yX2_init cX2_init 1 ({ frames := 1, cells := 2, slots := 20, locals := 14 }) D cA ad (b, .inr (3, [.null, .null, .int 0, .int 0])) sz (fun u : (Nat → Nat) × BilS => u.1 0 = b ∧ RB u.2 ([], 0)) (fun u => BilW cA u.1 u.2) 2 20 := by
  generalize erm : ({ frames := 1, cells := 2, slots := 20, locals := 14 } : Room) = rm
  refine nMet (by decide) (Nat.le_of_ble_eq_true rfl) ?_
  intro p e s m below meth c hx hb hr hlocks hml hts hown hin hK hP A eA hD hS hA hsz hN hE ls hl
  have hl : lv_has ls 1 [(0, .ref b)] := hl
  clear eA
  refine lv_aload_n hx hb dX2_init_0 rfl (lv_at hl 0 rfl) ?_
  refine W.objInit hx hb hown (hts _ qmo_X2) (hts _ qio) (hts _ qoo) rfl (by rw [hml]; exact hl.1) rfl dX2_init_1 (by rw [← erm]; exact Nat.le_of_ble_eq_true rfl) (by rw [← erm]; exact Nat.le_of_ble_eq_true rfl) ?_
  refine lv_aload_n hx hb dX2_init_4 rfl (lv_at hl 0 rfl) ?_
  refine lv_bipush (v := 10) hx hb dX2_init_5 (by decide) ?_
  refine nNewa (atype := .int) (ty := .int) hx hb (hts _ qar_int) rfl 0 (c0 := cA 0) rfl nRAi hK hP hD hS hA (N' := 10) (a0 := (10, .inl (fun _ => 0))) (fun _ => rfl) (by decide) (by decide) (by decide) (by rw [← erm]; exact Nat.le_of_ble_eq_true rfl) (by rw [← erm]; exact Nat.le_of_ble_eq_true rfl) dX2_init_7 (fun q1 H hP hD hS => ?_)
  have hP : va_P D vwCl ([(b, .inr (3, [.null, .null, .int 0, .int 0])), (q1, .inl (cA 0, 10, .inl (fun _ => 0)))]) H := hP
  have hD : va_D A ([(b, .inr (3, [.null, .null, .int 0, .int 0])), (q1, .inl (cA 0, 10, .inl (fun _ => 0)))]) := hD
  refine va_putF (D := D) (ci := 3) (v := .ref q1) (ty := .array .int) (C := RX2) (T := TX2) (N := 4) hx hb hts iX2 tyX2 tyX2_ok nmX2 hown hK hP hD hS 0 rfl rfl 0 (by decide) (hts _ qfl_X2_9) (fun _ h9 => h9) rfl hin rfl (by decide +kernel) rfl rfl (Nat.le_of_ble_eq_true rfl) dX2_init_9 (fun H locs hP hD hS => ?_)
  have hP : va_P D vwCl ([(b, .inr (3, [.ref q1, .null, .int 0, .int 0])), (q1, .inl (cA 0, 10, .inl (fun _ => 0)))]) H := hP
  have hD : va_D A ([(b, .inr (3, [.ref q1, .null, .int 0, .int 0])), (q1, .inl (cA 0, 10, .inl (fun _ => 0)))]) := hD
  refine lv_aload_n hx hb dX2_init_12 rfl (lv_at hl 0 rfl) ?_
  refine lv_bipush (v := 10) hx hb dX2_init_13 (by decide) ?_
  refine nNewa (atype := .int) (ty := .int) hx hb (hts _ qar_int) rfl 0 (c0 := cA 0) rfl nRAi hK hP hD hS hA (N' := 10) (a0 := (10, .inl (fun _ => 0))) (fun _ => rfl) (by decide) (by decide) (by decide) (by rw [← erm]; exact Nat.le_of_ble_eq_true rfl) (by rw [← erm]; exact Nat.le_of_ble_eq_true rfl) dX2_init_15 (fun q2 H hP hD hS => ?_)
  have hP : va_P D vwCl ([(b, .inr (3, [.ref q1, .null, .int 0, .int 0])), (q1, .inl (cA 0, 10, .inl (fun _ => 0))), (q2, .inl (cA 0, 10, .inl (fun _ => 0)))]) H := hP
  have hD : va_D A ([(b, .inr (3, [.ref q1, .null, .int 0, .int 0])), (q1, .inl (cA 0, 10, .inl (fun _ => 0))), (q2, .inl (cA 0, 10, .inl (fun _ => 0)))]) := hD
  refine va_putF (D := D) (ci := 3) (v := .ref q2) (ty := .array .int) (C := RX2) (T := TX2) (N := 4) hx hb hts iX2 tyX2 tyX2_ok nmX2 hown hK hP hD hS 0 rfl rfl 1 (by decide) (hts _ qfl_X2_15) (fun _ h9 => h9) rfl hin rfl (by decide +kernel) rfl rfl (Nat.le_of_ble_eq_true rfl) dX2_init_17 (fun H locs hP hD hS => ?_)
  have hP : va_P D vwCl ([(b, .inr (3, [.ref q1, .ref q2, .int 0, .int 0])), (q1, .inl (cA 0, 10, .inl (fun _ => 0))), (q2, .inl (cA 0, 10, .inl (fun _ => 0)))]) H := hP
  have hD : va_D A ([(b, .inr (3, [.ref q1, .ref q2, .int 0, .int 0])), (q1, .inl (cA 0, 10, .inl (fun _ => 0))), (q2, .inl (cA 0, 10, .inl (fun _ => 0)))]) := hD
  exact nRet (F := fun u : (Nat → Nat) × BilS => BilW cA u.1 u.2) (px := fun u => u.1 0 = b ∧ RB u.2 ([], 0)) (hAt [b, q1, q2], (fun _ => 0, fun _ => 0, 0, 0)) hx hb hr hlocks ⟨rfl, rfl, rfl, fun j x h => nil_at h⟩ hP hK hD hS dX2_init_20
set_option maxRecDepth 100000 in
set_option maxHeartbeats 4000000 in
theorem nX7_init (l : Launch) (D : va_G) (cA : Nat → ClassId) (ad ae : Nat → Nat) (b sz : Nat) : nM l yX7_init cX7_init 1 ({ frames := 1, cells := 2, slots := 2024, locals := 14 }) D cA ad (b, .inr (7, [.null, .null])) sz (fun u : (Nat → Nat) × MatS => u.1 0 = b ∧ True) (fun u => MatW cA u.1 u.2) 2 2024 := by
  generalize erm : ({ frames := 1, cells := 2, slots := 2024, locals := 14 } : Room) = rm
  refine nMet (by decide) (Nat.le_of_ble_eq_true rfl) ?_
  intro p e s m below meth c hx hb hr hlocks hml hts hown hin hK hP A eA hD hS hA hsz hN hE ls hl
  have hl : lv_has ls 1 [(0, .ref b)] := hl
  clear eA
  refine lv_aload_n hx hb dX7_init_0 rfl (lv_at hl 0 rfl) ?_
  refine W.objInit hx hb hown (hts _ qmo_X7) (hts _ qio) (hts _ qoo) rfl (by rw [hml]; exact hl.1) rfl dX7_init_1 (by rw [← erm]; exact Nat.le_of_ble_eq_true rfl) (by rw [← erm]; exact Nat.le_of_ble_eq_true rfl) ?_
  refine lv_aload_n hx hb dX7_init_4 rfl (lv_at hl 0 rfl) ?_
  refine lv_sipush (v := 1000) hx hb dX7_init_5 (by decide) ?_
  refine nNewa (atype := .boolean) (ty := .boolean) hx hb (hts _ qar_boolean) rfl 3 (c0 := cA 3) rfl nRAb hK hP hD hS hA (N' := 1000) (a0 := (1000, .inl (fun _ => 0))) (fun _ => rfl) (by decide) (by decide) (by decide) (by rw [← erm]; exact Nat.le_of_ble_eq_true rfl) (by rw [← erm]; exact Nat.le_of_ble_eq_true rfl) dX7_init_8 (fun q1 H hP hD hS => ?_)
  have hP : va_P D vwCl ([(b, .inr (7, [.null, .null])), (q1, .inl (cA 3, 1000, .inl (fun _ => 0)))]) H := hP
  have hD : va_D A ([(b, .inr (7, [.null, .null])), (q1, .inl (cA 3, 1000, .inl (fun _ => 0)))]) := hD
  refine va_putF (D := D) (ci := 7) (v := .ref q1) (ty := .array .boolean) (C := RX7) (T := TX7) (N := 2) hx hb hts iX7 tyX7 tyX7_ok nmX7 hown hK hP hD hS 0 rfl rfl 0 (by decide) (hts _ qfl_X7_9) (fun _ h9 => h9) rfl hin rfl (by decide +kernel) rfl rfl (Nat.le_of_ble_eq_true rfl) dX7_init_10 (fun H locs hP hD hS => ?_)
  have hP : va_P D vwCl ([(b, .inr (7, [.ref q1, .null])), (q1, .inl (cA 3, 1000, .inl (fun _ => 0)))]) H := hP
  have hD : va_D A ([(b, .inr (7, [.ref q1, .null])), (q1, .inl (cA 3, 1000, .inl (fun _ => 0)))]) := hD
  refine lv_aload_n hx hb dX7_init_13 rfl (lv_at hl 0 rfl) ?_
  refine lv_sipush (v := 1024) hx hb dX7_init_14 (by decide) ?_
  refine nNewa (atype := .int) (ty := .int) hx hb (hts _ qar_int) rfl 0 (c0 := cA 0) rfl nRAi hK hP hD hS hA (N' := 1024) (a0 := (1024, .inl (fun _ => 0))) (fun _ => rfl) (by decide) (by decide) (by decide) (by rw [← erm]; exact Nat.le_of_ble_eq_true rfl) (by rw [← erm]; exact Nat.le_of_ble_eq_true rfl) dX7_init_17 (fun q2 H hP hD hS => ?_)
  have hP : va_P D vwCl ([(b, .inr (7, [.ref q1, .null])), (q1, .inl (cA 3, 1000, .inl (fun _ => 0))), (q2, .inl (cA 0, 1024, .inl (fun _ => 0)))]) H := hP
  have hD : va_D A ([(b, .inr (7, [.ref q1, .null])), (q1, .inl (cA 3, 1000, .inl (fun _ => 0))), (q2, .inl (cA 0, 1024, .inl (fun _ => 0)))]) := hD
  refine va_putF (D := D) (ci := 7) (v := .ref q2) (ty := .array .int) (C := RX7) (T := TX7) (N := 2) hx hb hts iX7 tyX7 tyX7_ok nmX7 hown hK hP hD hS 0 rfl rfl 1 (by decide) (hts _ qfl_X7_15) (fun _ h9 => h9) rfl hin rfl (by decide +kernel) rfl rfl (Nat.le_of_ble_eq_true rfl) dX7_init_19 (fun H locs hP hD hS => ?_)
  have hP : va_P D vwCl ([(b, .inr (7, [.ref q1, .ref q2])), (q1, .inl (cA 3, 1000, .inl (fun _ => 0))), (q2, .inl (cA 0, 1024, .inl (fun _ => 0)))]) H := hP
  have hD : va_D A ([(b, .inr (7, [.ref q1, .ref q2])), (q1, .inl (cA 3, 1000, .inl (fun _ => 0))), (q2, .inl (cA 0, 1024, .inl (fun _ => 0)))]) := hD
  exact nRet (F := fun u : (Nat → Nat) × MatS => MatW cA u.1 u.2) (px := fun u => u.1 0 = b ∧ True) (hAt [b, q1, q2], (fun _ => 0, fun _ => 0)) hx hb hr hlocks ⟨rfl, trivial⟩ hP hK hD hS dX7_init_22
set_option maxRecDepth 100000 in
set_option maxHeartbeats 4000000 in
theorem nX9_init (l : Launch) (D : va_G) (cA : Nat → ClassId) (ad ae : Nat → Nat) (b sz : Nat) : nM l yX9_init cX9_init 1 ({ frames := 1, cells := 3, slots := 108, locals := 14 }) D cA ad (b, .inr (9, [.null, .int 0, .null, .null, .int 0, .int 0])) sz (fun u : (Nat → Nat) × ScrS => u.1 0 = b ∧ u.2.2.1 = 0) (fun u => ScrW cA ae u.1 u.2) 3 108 := by
  generalize erm : ({ frames := 1, cells := 3, slots := 108, locals := 14 } : Room) = rm
  refine nMet (by decide) (Nat.le_of_ble_eq_true rfl) ?_
  intro p e s m below meth c hx hb hr hlocks hml hts hown hin hK hP A eA hD hS hA hsz hN hE ls hl
  have hl : lv_has ls 1 [(0, .ref b)] := hl
  clear eA
  refine lv_aload_n hx hb dX9_init_0 rfl (lv_at hl 0 rfl) ?_
  refine W.objInit hx hb hown (hts _ qmo_X9) (hts _ qio) (hts _ qoo) rfl (by rw [hml]; exact hl.1) rfl dX9_init_1 (by rw [← erm]; exact Nat.le_of_ble_eq_true rfl) (by rw [← erm]; exact Nat.le_of_ble_eq_true rfl) ?_
  refine lv_aload_n hx hb dX9_init_4 rfl (lv_at hl 0 rfl) ?_
  refine lv_bipush (v := 60) hx hb dX9_init_5 (by decide) ?_
  refine nNewa (atype := .char) (ty := .char) hx hb (hts _ qar_char) rfl 1 (c0 := cA 1) rfl nRAc hK hP hD hS hA (N' := 60) (a0 := (60, .inl (fun _ => 0))) (fun _ => rfl) (by decide) (by decide) (by decide) (by rw [← erm]; exact Nat.le_of_ble_eq_true rfl) (by rw [← erm]; exact Nat.le_of_ble_eq_true rfl) dX9_init_7 (fun q1 H hP hD hS => ?_)
  have hP : va_P D vwCl ([(b, .inr (9, [.null, .int 0, .null, .null, .int 0, .int 0])), (q1, .inl (cA 1, 60, .inl (fun _ => 0)))]) H := hP
  have hD : va_D A ([(b, .inr (9, [.null, .int 0, .null, .null, .int 0, .int 0])), (q1, .inl (cA 1, 60, .inl (fun _ => 0)))]) := hD
  refine va_putF (D := D) (ci := 9) (v := .ref q1) (ty := .array .char) (C := RX9) (T := TX9) (N := 6) hx hb hts iX9 tyX9 tyX9_ok nmX9 hown hK hP hD hS 0 rfl rfl 0 (by decide) (hts _ qfl_X9_9) (fun _ h9 => h9) rfl hin rfl (by decide +kernel) rfl rfl (Nat.le_of_ble_eq_true rfl) dX9_init_9 (fun H locs hP hD hS => ?_)
  have hP : va_P D vwCl ([(b, .inr (9, [.ref q1, .int 0, .null, .null, .int 0, .int 0])), (q1, .inl (cA 1, 60, .inl (fun _ => 0)))]) H := hP
  have hD : va_D A ([(b, .inr (9, [.ref q1, .int 0, .null, .null, .int 0, .int 0])), (q1, .inl (cA 1, 60, .inl (fun _ => 0)))]) := hD
  refine lv_aload_n hx hb dX9_init_12 rfl (lv_at hl 0 rfl) ?_
  refine lv_bipush (v := 12) hx hb dX9_init_13 (by decide) ?_
  refine nNewq hx hb hown (hts _ qcs_X9_15) hE.2.2.2 5 (c0 := cA 5) rfl hK hP hD hS hA (N' := 12) (by decide) (by decide) (by decide) (by rw [← erm]; exact Nat.le_of_ble_eq_true rfl) (by rw [← erm]; exact Nat.le_of_ble_eq_true rfl) dX9_init_15 (fun q2 H hP hD hS => ?_)
  have hP : va_P D vwCl ([(b, .inr (9, [.ref q1, .int 0, .null, .null, .int 0, .int 0])), (q1, .inl (cA 1, 60, .inl (fun _ => 0))), (q2, .inl (cA 5, 12, .inr (.inr (.inr (.inr (fun _ => none))))))]) H := hP
  have hD : va_D A ([(b, .inr (9, [.ref q1, .int 0, .null, .null, .int 0, .int 0])), (q1, .inl (cA 1, 60, .inl (fun _ => 0))), (q2, .inl (cA 5, 12, .inr (.inr (.inr (.inr (fun _ => none))))))]) := hD
  refine va_putF (D := D) (ci := 9) (v := .ref q2) (ty := .array (.object "TheatreLedger$Verb")) (C := RX9) (T := TX9) (N := 6) hx hb hts iX9 tyX9 tyX9_ok nmX9 hown hK hP hD hS 0 rfl rfl 2 (by decide) (hts _ qfl_X9_17) (fun _ h9 => h9) rfl hin rfl (by decide +kernel) rfl rfl (Nat.le_of_ble_eq_true rfl) dX9_init_18 (fun H locs hP hD hS => ?_)
  have hP : va_P D vwCl ([(b, .inr (9, [.ref q1, .int 0, .ref q2, .null, .int 0, .int 0])), (q1, .inl (cA 1, 60, .inl (fun _ => 0))), (q2, .inl (cA 5, 12, .inr (.inr (.inr (.inr (fun _ => none))))))]) H := hP
  have hD : va_D A ([(b, .inr (9, [.ref q1, .int 0, .ref q2, .null, .int 0, .int 0])), (q1, .inl (cA 1, 60, .inl (fun _ => 0))), (q2, .inl (cA 5, 12, .inr (.inr (.inr (.inr (fun _ => none))))))]) := hD
  refine lv_aload_n hx hb dX9_init_21 rfl (lv_at hl 0 rfl) ?_
  refine lv_bipush (v := 36) hx hb dX9_init_22 (by decide) ?_
  refine nNewa (atype := .int) (ty := .int) hx hb (hts _ qar_int) rfl 0 (c0 := cA 0) rfl nRAi hK hP hD hS hA (N' := 36) (a0 := (36, .inl (fun _ => 0))) (fun _ => rfl) (by decide) (by decide) (by decide) (by rw [← erm]; exact Nat.le_of_ble_eq_true rfl) (by rw [← erm]; exact Nat.le_of_ble_eq_true rfl) dX9_init_24 (fun q3 H hP hD hS => ?_)
  have hP : va_P D vwCl ([(b, .inr (9, [.ref q1, .int 0, .ref q2, .null, .int 0, .int 0])), (q1, .inl (cA 1, 60, .inl (fun _ => 0))), (q2, .inl (cA 5, 12, .inr (.inr (.inr (.inr (fun _ => none)))))), (q3, .inl (cA 0, 36, .inl (fun _ => 0)))]) H := hP
  have hD : va_D A ([(b, .inr (9, [.ref q1, .int 0, .ref q2, .null, .int 0, .int 0])), (q1, .inl (cA 1, 60, .inl (fun _ => 0))), (q2, .inl (cA 5, 12, .inr (.inr (.inr (.inr (fun _ => none)))))), (q3, .inl (cA 0, 36, .inl (fun _ => 0)))]) := hD
  refine va_putF (D := D) (ci := 9) (v := .ref q3) (ty := .array .int) (C := RX9) (T := TX9) (N := 6) hx hb hts iX9 tyX9 tyX9_ok nmX9 hown hK hP hD hS 0 rfl rfl 3 (by decide) (hts _ qfl_X9_21) (fun _ h9 => h9) rfl hin rfl (by decide +kernel) rfl rfl (Nat.le_of_ble_eq_true rfl) dX9_init_26 (fun H locs hP hD hS => ?_)
  have hP : va_P D vwCl ([(b, .inr (9, [.ref q1, .int 0, .ref q2, .ref q3, .int 0, .int 0])), (q1, .inl (cA 1, 60, .inl (fun _ => 0))), (q2, .inl (cA 5, 12, .inr (.inr (.inr (.inr (fun _ => none)))))), (q3, .inl (cA 0, 36, .inl (fun _ => 0)))]) H := hP
  have hD : va_D A ([(b, .inr (9, [.ref q1, .int 0, .ref q2, .ref q3, .int 0, .int 0])), (q1, .inl (cA 1, 60, .inl (fun _ => 0))), (q2, .inl (cA 5, 12, .inr (.inr (.inr (.inr (fun _ => none)))))), (q3, .inl (cA 0, 36, .inl (fun _ => 0)))]) := hD
  exact nRet (F := fun u : (Nat → Nat) × ScrS => ScrW cA ae u.1 u.2) (px := fun u => u.1 0 = b ∧ u.2.2.1 = 0) (hAt [b, q1, q2, q3], (fun _ => 0, 0, fun _ => none, fun _ => 0, 0, 0)) hx hb hr hlocks ⟨rfl, rfl⟩ hP hK hD hS dX9_init_29
