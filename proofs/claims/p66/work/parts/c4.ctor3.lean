/-! ===== the constructor of the accounts, and of the books ===== -/
def nKd (i : Nat) : Nat → Int32 := fun k => if k < i then iI (aK sA0 k) else 0
def nPa (i : Nat) : Nat → Int32 := fun k => if k < i then (-1) else 0
theorem nKd_0 : nKd 0 = fun _ => 0 := funext fun k => if_neg (Nat.not_lt_zero k)
theorem nPa_0 : nPa 0 = fun _ => 0 := funext fun k => if_neg (Nat.not_lt_zero k)
theorem nCh_all : (List.range 6).all (fun i => decide (vp_nar .char (wCh 0 i) = iI (aK sA0 i))) = true := by decide +kernel
theorem nKd_s {i : Nat} (hi : i < 6) : upd (nKd i) i (vp_nar .char (wCh 0 i)) = nKd (i + 1) := by
  rw [of_decide_eq_true (List.all_eq_true.mp nCh_all i (List.mem_range.mpr hi))]
  funext k
  unfold nKd upd
  dsimp only
  by_cases h : k = i
  · subst h
    rw [if_pos rfl, if_pos (by omega)]
  · rw [if_neg h]
    by_cases h2 : k < i
    · rw [if_pos h2, if_pos (by omega)]
    · rw [if_neg h2, if_neg (by omega)]
theorem nPa_s {i : Nat} (hi : i < 6) : upd (nPa i) i (-1) = nPa (i + 1) := by
  funext k
  unfold nPa upd
  dsimp only
  by_cases h : k = i
  · subst h
    rw [if_pos rfl, if_pos (by omega)]
  · rw [if_neg h]
    by_cases h2 : k < i
    · rw [if_pos h2, if_pos (by omega)]
    · rw [if_neg h2, if_neg (by omega)]
theorem nIx_all : (List.range 6).all (fun i => decide (0 ≤ (iI (i : Int)).toInt) && decide ((iI (i : Int)).toInt < (12 : Nat)) && decide ((iI (i : Int)).toNatClampNeg = i) && decide (¬ (6 : Int32) ≤ iI (i : Int)) && decide (¬ iI (i : Int) < 0) && decide (iI (i : Int) < wLen 0)) = true := by decide +kernel
theorem nIx_at {i : Nat} (hi : i < 6) : ((((0 ≤ (iI (i : Int)).toInt ∧ (iI (i : Int)).toInt < (12 : Nat)) ∧ (iI (i : Int)).toNatClampNeg = i) ∧ ¬ (6 : Int32) ≤ iI (i : Int)) ∧ ¬ iI (i : Int) < 0) ∧ iI (i : Int) < wLen 0 := by
  have h := List.all_eq_true.mp nIx_all i (List.mem_range.mpr hi)
  simp only [Bool.and_eq_true, decide_eq_true_eq] at h
  exact h
theorem nIx {i : Nat} (hi : i < 6) : vp_in (iI (i : Int)) 12 ∧ (iI (i : Int)).toNatClampNeg = i := ⟨vp_in_iff.mpr (nIx_at hi).1.1.1.1, (nIx_at hi).1.1.1.2⟩
theorem nNge {i : Nat} (hi : i < 6) : ¬ (6 : Int32) ≤ iI (i : Int) := (nIx_at hi).1.1.2
theorem nNlt {i : Nat} (hi : i < 6) : ¬ iI (i : Int) < 0 := (nIx_at hi).1.2
theorem nLt6 {i : Nat} (hi : i < 6) : iI (i : Int) < wLen 0 := (nIx_at hi).2
theorem nInc (i : Nat) : iI (i : Int) + 1 = iI ((i + 1 : Nat) : Int) := by rw [show (1 : Int32) = iI 1 from rfl, i_add]; rfl
theorem nAcc_all : (List.range 6).all (fun i => decide (nKd 6 i = iI (aK sA0 i)) && decide (nPa 6 i = iI (aP sA0 i)) && decide (vp_updL (fun _ => 0) 0 500 i = iL (aD sA0 i)) && decide (vp_updL (fun _ => 0) 3 500 i = iL (aC sA0 i))) = true := by decide +kernel
theorem nAcc_ok : RA (nKd 6, nPa 6, vp_updL (fun _ => 0) 0 500, vp_updL (fun _ => 0) 3 500, 6) sA0 := by
  refine ⟨by decide +kernel, rfl, fun i hi => ?_⟩
  have hi : i < 6 := hi
  have h := List.all_eq_true.mp nAcc_all i (List.mem_range.mpr hi)
  simp only [Bool.and_eq_true, decide_eq_true_eq] at h
  exact ⟨h.1.1.1, h.1.1.2, h.1.2, h.2⟩
set_option maxRecDepth 100000 in
set_option maxHeartbeats 4000000 in
theorem nX1_init (l : Launch) (D : va_G) (cA : Nat → ClassId) (ad ae : Nat → Nat) (b sz : Nat) : nM l yX1_init cX1_init 2 ({ frames := 4, cells := 4, slots := 48, locals := 90 }) D cA ad (b, .inr (2, [.null, .null, .null, .null, .int 0])) sz (fun u : (Nat → Nat) × AccS => u.1 0 = b ∧ RA u.2 sA0) (fun u => AccW cA u.1 u.2) 4 48 := by
  generalize erm : ({ frames := 4, cells := 4, slots := 48, locals := 90 } : Room) = rm
  refine nMet (by decide) (Nat.le_of_ble_eq_true rfl) ?_
  intro p e s m below meth c hx hb hr hlocks hml hts hown hin hK hP A eA hD hS hA hsz hN hE ls hl
  have hl : lv_has ls 2 [(0, .ref b)] := hl
  clear eA
  refine lv_aload_n hx hb dX1_init_0 rfl (lv_at hl 0 rfl) ?_
  refine W.objInit hx hb hown (hts _ qmo_X1) (hts _ qio) (hts _ qoo) rfl (by rw [hml]; exact hl.1) rfl dX1_init_1 (by rw [← erm]; exact Nat.le_of_ble_eq_true rfl) (by rw [← erm]; exact Nat.le_of_ble_eq_true rfl) ?_
  refine lv_aload_n hx hb dX1_init_4 rfl (lv_at hl 0 rfl) ?_
  refine lv_bipush (v := 12) hx hb dX1_init_5 (by decide) ?_
  refine nNewa (atype := .char) (ty := .char) hx hb (hts _ qar_char) rfl 1 (c0 := cA 1) rfl nRAc hK hP hD hS hA (N' := 12) (a0 := (12, .inl (fun _ => 0))) (fun _ => rfl) (by decide) (by decide) (by decide) (by rw [← erm]; exact Nat.le_of_ble_eq_true rfl) (by rw [← erm]; exact Nat.le_of_ble_eq_true rfl) dX1_init_7 (fun q1 H hP hD hS => ?_)
  have hP : va_P D vwCl ([(b, .inr (2, [.null, .null, .null, .null, .int 0])), (q1, .inl (cA 1, 12, .inl (fun _ => 0)))]) H := hP
  have hD : va_D A ([(b, .inr (2, [.null, .null, .null, .null, .int 0])), (q1, .inl (cA 1, 12, .inl (fun _ => 0)))]) := hD
  refine va_putF (D := D) (ci := 2) (v := .ref q1) (ty := .array .char) (C := RX1) (T := TX1) (N := 5) hx hb hts iX1 tyX1 tyX1_ok nmX1 hown hK hP hD hS 0 rfl rfl 0 (by decide) (hts _ qfl_X1_9) (fun _ h9 => h9) rfl hin rfl (by decide +kernel) rfl rfl (Nat.le_of_ble_eq_true rfl) dX1_init_9 (fun H locs hP hD hS => ?_)
  have hP : va_P D vwCl ([(b, .inr (2, [.ref q1, .null, .null, .null, .int 0])), (q1, .inl (cA 1, 12, .inl (fun _ => 0)))]) H := hP
  have hD : va_D A ([(b, .inr (2, [.ref q1, .null, .null, .null, .int 0])), (q1, .inl (cA 1, 12, .inl (fun _ => 0)))]) := hD
  refine lv_aload_n hx hb dX1_init_12 rfl (lv_at hl 0 rfl) ?_
  refine lv_bipush (v := 12) hx hb dX1_init_13 (by decide) ?_
  refine nNewa (atype := .int) (ty := .int) hx hb (hts _ qar_int) rfl 0 (c0 := cA 0) rfl nRAi hK hP hD hS hA (N' := 12) (a0 := (12, .inl (fun _ => 0))) (fun _ => rfl) (by decide) (by decide) (by decide) (by rw [← erm]; exact Nat.le_of_ble_eq_true rfl) (by rw [← erm]; exact Nat.le_of_ble_eq_true rfl) dX1_init_15 (fun q2 H hP hD hS => ?_)
  have hP : va_P D vwCl ([(b, .inr (2, [.ref q1, .null, .null, .null, .int 0])), (q1, .inl (cA 1, 12, .inl (fun _ => 0))), (q2, .inl (cA 0, 12, .inl (fun _ => 0)))]) H := hP
  have hD : va_D A ([(b, .inr (2, [.ref q1, .null, .null, .null, .int 0])), (q1, .inl (cA 1, 12, .inl (fun _ => 0))), (q2, .inl (cA 0, 12, .inl (fun _ => 0)))]) := hD
  refine va_putF (D := D) (ci := 2) (v := .ref q2) (ty := .array .int) (C := RX1) (T := TX1) (N := 5) hx hb hts iX1 tyX1 tyX1_ok nmX1 hown hK hP hD hS 0 rfl rfl 1 (by decide) (hts _ qfl_X1_15) (fun _ h9 => h9) rfl hin rfl (by decide +kernel) rfl rfl (Nat.le_of_ble_eq_true rfl) dX1_init_17 (fun H locs hP hD hS => ?_)
  have hP : va_P D vwCl ([(b, .inr (2, [.ref q1, .ref q2, .null, .null, .int 0])), (q1, .inl (cA 1, 12, .inl (fun _ => 0))), (q2, .inl (cA 0, 12, .inl (fun _ => 0)))]) H := hP
  have hD : va_D A ([(b, .inr (2, [.ref q1, .ref q2, .null, .null, .int 0])), (q1, .inl (cA 1, 12, .inl (fun _ => 0))), (q2, .inl (cA 0, 12, .inl (fun _ => 0)))]) := hD
  refine lv_aload_n hx hb dX1_init_20 rfl (lv_at hl 0 rfl) ?_
  refine lv_bipush (v := 12) hx hb dX1_init_21 (by decide) ?_
  refine nNewa (atype := .long) (ty := .long) hx hb (hts _ qar_long) rfl 2 (c0 := cA 2) rfl nRAl hK hP hD hS hA (N' := 12) (a0 := (12, .inr (.inl (fun _ => 0)))) (fun _ => rfl) (by decide) (by decide) (by decide) (by rw [← erm]; exact Nat.le_of_ble_eq_true rfl) (by rw [← erm]; exact Nat.le_of_ble_eq_true rfl) dX1_init_23 (fun q3 H hP hD hS => ?_)
  have hP : va_P D vwCl ([(b, .inr (2, [.ref q1, .ref q2, .null, .null, .int 0])), (q1, .inl (cA 1, 12, .inl (fun _ => 0))), (q2, .inl (cA 0, 12, .inl (fun _ => 0))), (q3, .inl (cA 2, 12, .inr (.inl (fun _ => 0))))]) H := hP
  have hD : va_D A ([(b, .inr (2, [.ref q1, .ref q2, .null, .null, .int 0])), (q1, .inl (cA 1, 12, .inl (fun _ => 0))), (q2, .inl (cA 0, 12, .inl (fun _ => 0))), (q3, .inl (cA 2, 12, .inr (.inl (fun _ => 0))))]) := hD
  refine va_putF (D := D) (ci := 2) (v := .ref q3) (ty := .array .long) (C := RX1) (T := TX1) (N := 5) hx hb hts iX1 tyX1 tyX1_ok nmX1 hown hK hP hD hS 0 rfl rfl 2 (by decide) (hts _ qfl_X1_19) (fun _ h9 => h9) rfl hin rfl (by decide +kernel) rfl rfl (Nat.le_of_ble_eq_true rfl) dX1_init_25 (fun H locs hP hD hS => ?_)
  have hP : va_P D vwCl ([(b, .inr (2, [.ref q1, .ref q2, .ref q3, .null, .int 0])), (q1, .inl (cA 1, 12, .inl (fun _ => 0))), (q2, .inl (cA 0, 12, .inl (fun _ => 0))), (q3, .inl (cA 2, 12, .inr (.inl (fun _ => 0))))]) H := hP
  have hD : va_D A ([(b, .inr (2, [.ref q1, .ref q2, .ref q3, .null, .int 0])), (q1, .inl (cA 1, 12, .inl (fun _ => 0))), (q2, .inl (cA 0, 12, .inl (fun _ => 0))), (q3, .inl (cA 2, 12, .inr (.inl (fun _ => 0))))]) := hD
  refine lv_aload_n hx hb dX1_init_28 rfl (lv_at hl 0 rfl) ?_
  refine lv_bipush (v := 12) hx hb dX1_init_29 (by decide) ?_
  refine nNewa (atype := .long) (ty := .long) hx hb (hts _ qar_long) rfl 2 (c0 := cA 2) rfl nRAl hK hP hD hS hA (N' := 12) (a0 := (12, .inr (.inl (fun _ => 0)))) (fun _ => rfl) (by decide) (by decide) (by decide) (by rw [← erm]; exact Nat.le_of_ble_eq_true rfl) (by rw [← erm]; exact Nat.le_of_ble_eq_true rfl) dX1_init_31 (fun q4 H hP hD hS => ?_)
  have hP : va_P D vwCl ([(b, .inr (2, [.ref q1, .ref q2, .ref q3, .null, .int 0])), (q1, .inl (cA 1, 12, .inl (fun _ => 0))), (q2, .inl (cA 0, 12, .inl (fun _ => 0))), (q3, .inl (cA 2, 12, .inr (.inl (fun _ => 0)))), (q4, .inl (cA 2, 12, .inr (.inl (fun _ => 0))))]) H := hP
  have hD : va_D A ([(b, .inr (2, [.ref q1, .ref q2, .ref q3, .null, .int 0])), (q1, .inl (cA 1, 12, .inl (fun _ => 0))), (q2, .inl (cA 0, 12, .inl (fun _ => 0))), (q3, .inl (cA 2, 12, .inr (.inl (fun _ => 0)))), (q4, .inl (cA 2, 12, .inr (.inl (fun _ => 0))))]) := hD
  refine va_putF (D := D) (ci := 2) (v := .ref q4) (ty := .array .long) (C := RX1) (T := TX1) (N := 5) hx hb hts iX1 tyX1 tyX1_ok nmX1 hown hK hP hD hS 0 rfl rfl 3 (by decide) (hts _ qfl_X1_23) (fun _ h9 => h9) rfl hin rfl (by decide +kernel) rfl rfl (Nat.le_of_ble_eq_true rfl) dX1_init_33 (fun H locs hP hD hS => ?_)
  have hP : va_P D vwCl ([(b, .inr (2, [.ref q1, .ref q2, .ref q3, .ref q4, .int 0])), (q1, .inl (cA 1, 12, .inl (fun _ => 0))), (q2, .inl (cA 0, 12, .inl (fun _ => 0))), (q3, .inl (cA 2, 12, .inr (.inl (fun _ => 0)))), (q4, .inl (cA 2, 12, .inr (.inl (fun _ => 0))))]) H := hP
  have hD : va_D A ([(b, .inr (2, [.ref q1, .ref q2, .ref q3, .ref q4, .int 0])), (q1, .inl (cA 1, 12, .inl (fun _ => 0))), (q2, .inl (cA 0, 12, .inl (fun _ => 0))), (q3, .inl (cA 2, 12, .inr (.inl (fun _ => 0)))), (q4, .inl (cA 2, 12, .inr (.inl (fun _ => 0))))]) := hD
  refine lv_aload_n hx hb dX1_init_36 rfl (lv_at hl 0 rfl) ?_
  refine va_ldcS hx hb hown hE.2.1 dX1_init_37 ?_
  refine xCallH (w2 := [(b, .inr (2, [.ref q1, .ref q2, .ref q3, .ref q4, .int 0])), (q1, .inl (cA 1, 12, .inl (fun _ => 0))), (q2, .inl (cA 0, 12, .inl (fun _ => 0))), (q3, .inl (cA 2, 12, .inr (.inl (fun _ => 0)))), (q4, .inl (cA 2, 12, .inr (.inl (fun _ => 0))))]) (wRunVr (n := 0) (As := []) (rest := [.ref b]) ⟨hx, hb, hml, hown, hts⟩ (nJ0_length l D cA ad _ (i := 0) (by decide)) qco_J0_length_8abf5 qml_X1_28 qin_J0_length_8abf5 qse_J0_length_8abf5 qini_J0 (by decide +kernel) (by rw [← erm]; rfl) hN hE.1 hS hA hK hP hD [] rfl rfl (hE.1.str hS (i := 0) (by decide)) rfl rfl hl.1 rfl (lv_room (Nat.le_of_ble_eq_true rfl)) dX1_init_39 ⟨(by rw [← erm]; exact Nat.le_of_ble_eq_true rfl), (by rw [← erm]; exact Nat.le_of_ble_eq_true rfl)⟩) hP hD hS hA [] rfl rfl (xselH [none, none, none, none, none] rfl (by decide +kernel)) (fun H locs hP hD hS => ?_)
  refine va_put (D := D) (ci := 2) (v := .int 6) (ty := .int) (C := RX1) (T := TX1) (N := 5) hx hb hts iX1 tyX1 tyX1_ok nmX1 hown hK hP hD hS 0 rfl rfl 4 (by decide) (hts _ qfl_X1_34) (fun _ h9 => h9) rfl (by decide +kernel) rfl rfl (Nat.le_of_ble_eq_true rfl) dX1_init_42 (fun H locs hP hD hS => ?_)
  refine lv_iconst (v := 0) hx hb dX1_init_45 (by decide) ?_
  refine lv_istore_n (lv' := [(1, .int 0), (0, .ref b)]) hx hb dX1_init_46 rfl hl (by decide) rfl (fun ls hl => ?_)
  have hL : ∀ (n i : Nat), i + n = 6 → ∀ (H : Heap) (locs : List Loc), va_P D vwCl ([(b, .inr (2, [.ref q1, .ref q2, .ref q3, .ref q4, .int 6])), (q1, .inl (cA 1, 12, .inl (nKd i))), (q2, .inl (cA 0, 12, .inl (nPa i))), (q3, .inl (cA 2, 12, .inr (.inl (fun _ => 0)))), (q4, .inl (cA 2, 12, .inr (.inl (fun _ => 0))))]) H → va_D A ([(b, .inr (2, [.ref q1, .ref q2, .ref q3, .ref q4, .int 6])), (q1, .inl (cA 1, 12, .inl (nKd i))), (q2, .inl (cA 0, 12, .inl (nPa i))), (q3, .inl (cA 2, 12, .inr (.inl (fun _ => 0)))), (q4, .inl (cA 2, 12, .inr (.inl (fun _ => 0))))]) → va_S A s.heap H locs → ∀ ls : Array Slot, lv_has ls 2 [(1, .int (iI (i : Int))), (0, .ref b)] → W p l e rm s m ([.ref b] : List Value).toArray below meth c H locs 4 48 (nEnd below D cA A (fun u : (Nat → Nat) × AccS => u.1 0 = b ∧ RA u.2 sA0) (fun u => AccW cA u.1 u.2) b s 4 48) (F0 m 47 ls []) := by
    clear hP hD hS hl
    intro n
    induction n with
    | zero =>
      intro i hi H locs hP hD hS ls hl
      obtain rfl : i = 6 := by omega
      refine lv_iload_n hx hb dX1_init_47 rfl (lv_at hl 0 rfl) ?_
      refine lv_aload_n hx hb dX1_init_48 rfl (lv_at hl 1 rfl) ?_
      refine va_get (D := D) (ci := 2) (v := .int 6) (C := RX1) (T := TX1) (N := 5) hx hb hts iX1 hown hK hP 0 rfl rfl 4 (by decide) (hts _ qfl_X1_34) (fun _ h9 => h9) rfl dX1_init_49 ?_
      refine lv_icmp_ge (tgt := 80) hx hb dX1_init_52 (by decide) (fun _ => ?_) (fun c9 => absurd (by decide) c9)
      refine lv_aload_n hx hb dX1_init_80 rfl (lv_at hl 1 rfl) ?_
      refine va_get (D := D) (ci := 2) (v := .ref q3) (C := RX1) (T := TX1) (N := 5) hx hb hts iX1 hown hK hP 0 rfl rfl 2 (by decide) (hts _ qfl_X1_19) (fun _ h9 => h9) rfl dX1_init_81 ?_
      refine lv_iconst (v := 0) hx hb dX1_init_84 (by decide) ?_
      refine lv_ldc2 hx hb hown (hts _ qcl_X1_42) dX1_init_85 ?_
      refine xLast (w2 := fun zz => [(b, .inr (2, [.ref q1, .ref q2, .ref q3, .ref q4, .int 6])), (q1, .inl (cA 1, 12, .inl (nKd 6))), (q2, .inl (cA 0, 12, .inl (nPa 6))), (q3, .inl (cA 2, 12, .inr (.inl zz))), (q4, .inl (cA 2, 12, .inr (.inl (fun _ => 0))))]) hx hb hK hP hD hS 3 2 rfl rfl (x_lit (k := 0) (by decide)) (fun _ => rfl) dX1_init_88 (fun g3 eg3 H locs hP hD hS => ?_)
      refine lv_aload_n hx hb dX1_init_89 rfl (lv_at hl 1 rfl) ?_
      refine va_get (D := D) (ci := 2) (v := .ref q4) (C := RX1) (T := TX1) (N := 5) hx hb hts iX1 hown hK hP 0 rfl rfl 3 (by decide) (hts _ qfl_X1_23) (fun _ h9 => h9) rfl dX1_init_90 ?_
      refine lv_iconst (v := 3) hx hb dX1_init_93 (by decide) ?_
      refine lv_ldc2 hx hb hown (hts _ qcl_X1_42) dX1_init_94 ?_
      refine xLast (w2 := fun zz => [(b, .inr (2, [.ref q1, .ref q2, .ref q3, .ref q4, .int 6])), (q1, .inl (cA 1, 12, .inl (nKd 6))), (q2, .inl (cA 0, 12, .inl (nPa 6))), (q3, .inl (cA 2, 12, .inr (.inl g3))), (q4, .inl (cA 2, 12, .inr (.inl zz)))]) hx hb hK hP hD hS 4 2 rfl rfl (x_lit (k := 3) (by decide)) (fun _ => rfl) dX1_init_97 (fun g4 eg4 H locs hP hD hS => ?_)
      exact nRet (F := fun u : (Nat → Nat) × AccS => AccW cA u.1 u.2) (px := fun u => u.1 0 = b ∧ RA u.2 sA0) (hAt [b, q1, q2, q3, q4], (nKd 6, nPa 6, g3, g4, 6)) hx hb hr hlocks ⟨rfl, by rw [eg3, eg4]; exact nAcc_ok⟩ hP hK hD hS dX1_init_98
    | succ n ih =>
      intro i hi H locs hP hD hS ls hl
      have hi6 : i < 6 := by omega
      have hx9 : vp_in (iI (i : Int)) 12 ∧ (iI (i : Int)).toNatClampNeg = i := nIx hi6
      refine lv_iload_n hx hb dX1_init_47 rfl (lv_at hl 0 rfl) ?_
      refine lv_aload_n hx hb dX1_init_48 rfl (lv_at hl 1 rfl) ?_
      refine va_get (D := D) (ci := 2) (v := .int 6) (C := RX1) (T := TX1) (N := 5) hx hb hts iX1 hown hK hP 0 rfl rfl 4 (by decide) (hts _ qfl_X1_34) (fun _ h9 => h9) rfl dX1_init_49 ?_
      refine lv_icmp_ge (tgt := 80) hx hb dX1_init_52 (by decide) (fun c9 => absurd c9 (nNge hi6)) (fun _ => ?_)
      refine lv_aload_n hx hb dX1_init_55 rfl (lv_at hl 1 rfl) ?_
      refine va_get (D := D) (ci := 2) (v := .ref q1) (C := RX1) (T := TX1) (N := 5) hx hb hts iX1 hown hK hP 0 rfl rfl 0 (by decide) (hts _ qfl_X1_9) (fun _ h9 => h9) rfl dX1_init_56 ?_
      refine lv_iload_n hx hb dX1_init_59 rfl (lv_at hl 0 rfl) ?_
      refine va_ldcS hx hb hown hE.2.1 dX1_init_60 ?_
      refine lv_iload_n hx hb dX1_init_62 rfl (lv_at hl 0 rfl) ?_
      refine xCallH (w2 := [(b, .inr (2, [.ref q1, .ref q2, .ref q3, .ref q4, .int 6])), (q1, .inl (cA 1, 12, .inl (nKd i))), (q2, .inl (cA 0, 12, .inl (nPa i))), (q3, .inl (cA 2, 12, .inr (.inl (fun _ => 0)))), (q4, .inl (cA 2, 12, .inr (.inl (fun _ => 0))))]) (wRunVr (n := 1) (As := [.int (iI (i : Int))]) (rest := [.int (iI (i : Int)), .ref q1]) ⟨hx, hb, hml, hown, hts⟩ (nJ0_charAt l D cA ad _ (i := 0) (by decide) (iI (i : Int)) (nNlt hi6) (nLt6 hi6) (k := i) hx9.2 hi6) qco_J0_charAt_5068e qml_X1_38 qin_J0_charAt_5068e qse_J0_charAt_5068e qini_J0 (by decide +kernel) (by rw [← erm]; rfl) hN hE.1 hS hA hK hP hD [] rfl rfl (hE.1.str hS (i := 0) (by decide)) rfl rfl hl.1 rfl (lv_room (Nat.le_of_ble_eq_true rfl)) dX1_init_63 ⟨(by rw [← erm]; exact Nat.le_of_ble_eq_true rfl), (by rw [← erm]; exact Nat.le_of_ble_eq_true rfl)⟩) hP hD hS hA [] rfl rfl (xselH [none, none, none, none, none] rfl (by decide +kernel)) (fun H locs hP hD hS => ?_)
      refine xCast (w2 := fun zz => [(b, .inr (2, [.ref q1, .ref q2, .ref q3, .ref q4, .int 6])), (q1, .inl (cA 1, 12, .inl zz)), (q2, .inl (cA 0, 12, .inl (nPa i))), (q3, .inl (cA 2, 12, .inr (.inl (fun _ => 0)))), (q4, .inl (cA 2, 12, .inr (.inl (fun _ => 0))))]) hx hb hK hP hD hS 1 1 rfl rfl hx9 (fun _ => rfl) dX1_init_66 (fun g1 eg1 H locs hP hD hS => ?_)
      rw [nKd_s hi6] at eg1
      subst eg1
      refine lv_aload_n hx hb dX1_init_67 rfl (lv_at hl 1 rfl) ?_
      refine va_get (D := D) (ci := 2) (v := .ref q2) (C := RX1) (T := TX1) (N := 5) hx hb hts iX1 hown hK hP 0 rfl rfl 1 (by decide) (hts _ qfl_X1_15) (fun _ h9 => h9) rfl dX1_init_68 ?_
      refine lv_iload_n hx hb dX1_init_71 rfl (lv_at hl 0 rfl) ?_
      refine lv_iconst (v := (-1)) hx hb dX1_init_72 (by decide) ?_
      refine xIast (w2 := fun zz => [(b, .inr (2, [.ref q1, .ref q2, .ref q3, .ref q4, .int 6])), (q1, .inl (cA 1, 12, .inl (nKd (i + 1)))), (q2, .inl (cA 0, 12, .inl zz)), (q3, .inl (cA 2, 12, .inr (.inl (fun _ => 0)))), (q4, .inl (cA 2, 12, .inr (.inl (fun _ => 0))))]) hx hb hK hP hD hS 2 0 rfl rfl hx9 (fun _ => rfl) dX1_init_73 (fun g2 eg2 H locs hP hD hS => ?_)
      rw [nPa_s hi6] at eg2
      subst eg2
      refine lv_iinc (v := iI ((i + 1 : Nat) : Int)) (lv' := [(1, .int (iI ((i + 1 : Nat) : Int))), (0, .ref b)]) hx hb dX1_init_74 hl (k := 0) rfl (nInc i) (by decide) rfl (fun ls hl => ?_)
      refine lv_goto (tgt := 47) hx hb dX1_init_77 (by decide) ?_
      exact ih (i + 1) (by omega) _ _ hP hD hS _ hl
  exact hL 6 0 rfl _ _ (by rw [nKd_0, nPa_0]; exact hP) (by rw [nKd_0, nPa_0]; exact hD) hS _ hl
set_option maxRecDepth 100000 in
set_option maxHeartbeats 4000000 in
theorem nX3_init (l : Launch) (D : va_G) (cA : Nat → ClassId) (ad ae : Nat → Nat) (b sz : Nat) : nM l yX3_init cX3_init 1 ({ frames := 5, cells := 24, slots := 245, locals := 120 }) D cA ad (b, .inr (4, [.null, .null, .null, .null, .null, .int 0, .int 0])) sz (fun u : (Nat → Nat) × BooS => u.1 0 = b ∧ RBo u.2 sG0) (fun u => BooW cA u.1 u.2) 24 245 := by
  generalize erm : ({ frames := 5, cells := 24, slots := 245, locals := 120 } : Room) = rm
  refine nMet (by decide) (Nat.le_of_ble_eq_true rfl) ?_
  intro p e s m below meth c hx hb hr hlocks hml hts hown hin hK hP A eA hD hS hA hsz hN hE ls hl
  have hl : lv_has ls 1 [(0, .ref b)] := hl
  clear eA
  refine lv_aload_n hx hb dX3_init_0 rfl (lv_at hl 0 rfl) ?_
  refine W.objInit hx hb hown (hts _ qmo_X3) (hts _ qio) (hts _ qoo) rfl (by rw [hml]; exact hl.1) rfl dX3_init_1 (by rw [← erm]; exact Nat.le_of_ble_eq_true rfl) (by rw [← erm]; exact Nat.le_of_ble_eq_true rfl) ?_
  refine lv_aload_n hx hb dX3_init_4 rfl (lv_at hl 0 rfl) ?_
  refine va_new (ci := 2) (fs := [.null, .null, .null, .null, .int 0]) (C := RX1) (T := TX1) (N := 5) hx hb hts iX1 tyX1 tyX1_ok hown (hts _ qcs_X3_9) (hts _ qit_X1) (hts _ qini_X1) hK hP hD hS hA rfl (by decide) (by rw [← erm]; exact Nat.le_of_ble_eq_true rfl) (by rw [← erm]; exact Nat.le_of_ble_eq_true rfl) dX3_init_5 (fun q1 H hP hD hS => ?_)
  refine lv_dup hx hb dX3_init_8 rfl ?_
  refine nCall (a := ([(b, .inr (4, [.null, .null, .null, .null, .null, .int 0, .int 0]))] : va_W)) (nRunI (rest := [.ref q1, .ref b]) ⟨hx, hb, hml, hown, hts⟩ (nX1_init l D cA ad ae q1 _) qco_X1_init qml_X3_11 qin_X1_init qini_X1 (by decide +kernel) rfl (by rw [← erm]; rfl) hN hE hS hA hK hP hD rfl hl.1 rfl (lv_room (Nat.le_of_ble_eq_true rfl)) dX3_init_9 ⟨(by rw [← erm]; exact Nat.le_of_ble_eq_true rfl), (by rw [← erm]; exact Nat.le_of_ble_eq_true rfl)⟩) hP hD hS hA (fun u2 pu2 H locs hP hD hS => ?_)
  have hP : va_P D vwCl ([(b, .inr (4, [.null, .null, .null, .null, .null, .int 0, .int 0]))] ++ AccW cA u2.1 u2.2) H := hP
  have hD : va_D A ([(b, .inr (4, [.null, .null, .null, .null, .null, .int 0, .int 0]))] ++ AccW cA u2.1 u2.2) := hD
  refine va_putF (D := D) (ci := 4) (v := .ref q1) (ty := .object "TheatreLedger$Accounts") (C := RX3) (T := TX3) (N := 7) hx hb hts iX3 tyX3 tyX3_ok nmX3 hown hK hP hD hS 0 rfl rfl 0 (by decide) (hts _ qfl_X3_12) (fun _ h9 => h9) rfl hin rfl (by decide +kernel) rfl rfl (Nat.le_of_ble_eq_true rfl) dX3_init_12 (fun H locs hP hD hS => ?_)
  have hP : va_P D vwCl ([(b, .inr (4, [.ref q1, .null, .null, .null, .null, .int 0, .int 0]))] ++ AccW cA u2.1 u2.2) H := hP
  have hD : va_D A ([(b, .inr (4, [.ref q1, .null, .null, .null, .null, .int 0, .int 0]))] ++ AccW cA u2.1 u2.2) := hD
  refine lv_aload_n hx hb dX3_init_15 rfl (lv_at hl 0 rfl) ?_
  refine va_new (ci := 6) (fs := [.null, .null, .null, .null, .null, .int 0]) (C := RX6) (T := TX6) (N := 6) hx hb hts iX6 tyX6 tyX6_ok hown (hts _ qcs_X3_18) (hts _ qit_X6) (hts _ qini_X6) hK hP hD hS hA rfl (by decide) (by rw [← erm]; exact Nat.le_of_ble_eq_true rfl) (by rw [← erm]; exact Nat.le_of_ble_eq_true rfl) dX3_init_16 (fun q3 H hP hD hS => ?_)
  refine lv_dup hx hb dX3_init_19 rfl ?_
  refine nCall (a := ([(b, .inr (4, [.ref q1, .null, .null, .null, .null, .int 0, .int 0]))] ++ AccW cA u2.1 u2.2 : va_W)) (nRunIN (rest := [.ref q3, .ref b]) ⟨hx, hb, hml, hown, hts⟩ (nX6_init l D cA ad ae q3 _) qco_X6_init qmn_X3_20 qin_X6_init qini_X6 (by decide +kernel) rfl (by rw [← erm]; rfl) hN hE hS hA hK hP hD rfl hl.1 rfl (lv_room (Nat.le_of_ble_eq_true rfl)) dX3_init_20 ⟨(by rw [← erm]; exact Nat.le_of_ble_eq_true rfl), (by rw [← erm]; exact Nat.le_of_ble_eq_true rfl)⟩) hP hD hS hA (fun u4 pu4 H locs hP hD hS => ?_)
  have hP : va_P D vwCl ([(b, .inr (4, [.ref q1, .null, .null, .null, .null, .int 0, .int 0]))] ++ AccW cA u2.1 u2.2 ++ JouW cA u4.1 u4.2) H := hP
  have hD : va_D A ([(b, .inr (4, [.ref q1, .null, .null, .null, .null, .int 0, .int 0]))] ++ AccW cA u2.1 u2.2 ++ JouW cA u4.1 u4.2) := hD
  refine va_putF (D := D) (ci := 4) (v := .ref q3) (ty := .object "TheatreLedger$Journal") (C := RX3) (T := TX3) (N := 7) hx hb hts iX3 tyX3 tyX3_ok nmX3 hown hK hP hD hS 0 rfl rfl 1 (by decide) (hts _ qfl_X3_21) (fun _ h9 => h9) rfl hin rfl (by decide +kernel) rfl rfl (Nat.le_of_ble_eq_true rfl) dX3_init_23 (fun H locs hP hD hS => ?_)
  have hP : va_P D vwCl ([(b, .inr (4, [.ref q1, .ref q3, .null, .null, .null, .int 0, .int 0]))] ++ AccW cA u2.1 u2.2 ++ JouW cA u4.1 u4.2) H := hP
  have hD : va_D A ([(b, .inr (4, [.ref q1, .ref q3, .null, .null, .null, .int 0, .int 0]))] ++ AccW cA u2.1 u2.2 ++ JouW cA u4.1 u4.2) := hD
  refine lv_aload_n hx hb dX3_init_26 rfl (lv_at hl 0 rfl) ?_
  refine va_new (ci := 8) (fs := [.null, .null, .null, .null, .null, .null, .int 0]) (C := RX8) (T := TX8) (N := 7) hx hb hts iX8 tyX8 tyX8_ok hown (hts _ qcs_X3_25) (hts _ qit_X8) (hts _ qini_X8) hK hP hD hS hA rfl (by decide) (by rw [← erm]; exact Nat.le_of_ble_eq_true rfl) (by rw [← erm]; exact Nat.le_of_ble_eq_true rfl) dX3_init_27 (fun q5 H hP hD hS => ?_)
  refine lv_dup hx hb dX3_init_30 rfl ?_
  refine nCall (a := ([(b, .inr (4, [.ref q1, .ref q3, .null, .null, .null, .int 0, .int 0]))] ++ AccW cA u2.1 u2.2 ++ JouW cA u4.1 u4.2 : va_W)) (nRunIN (rest := [.ref q5, .ref b]) ⟨hx, hb, hml, hown, hts⟩ (nX8_init l D cA ad ae q5 _) qco_X8_init qmn_X3_27 qin_X8_init qini_X8 (by decide +kernel) rfl (by rw [← erm]; rfl) hN hE hS hA hK hP hD rfl hl.1 rfl (lv_room (Nat.le_of_ble_eq_true rfl)) dX3_init_31 ⟨(by rw [← erm]; exact Nat.le_of_ble_eq_true rfl), (by rw [← erm]; exact Nat.le_of_ble_eq_true rfl)⟩) hP hD hS hA (fun u6 pu6 H locs hP hD hS => ?_)
  have hP : va_P D vwCl ([(b, .inr (4, [.ref q1, .ref q3, .null, .null, .null, .int 0, .int 0]))] ++ AccW cA u2.1 u2.2 ++ JouW cA u4.1 u4.2 ++ ProW cA u6.1 u6.2) H := hP
  have hD : va_D A ([(b, .inr (4, [.ref q1, .ref q3, .null, .null, .null, .int 0, .int 0]))] ++ AccW cA u2.1 u2.2 ++ JouW cA u4.1 u4.2 ++ ProW cA u6.1 u6.2) := hD
  refine va_putF (D := D) (ci := 4) (v := .ref q5) (ty := .object "TheatreLedger$Prompts") (C := RX3) (T := TX3) (N := 7) hx hb hts iX3 tyX3 tyX3_ok nmX3 hown hK hP hD hS 0 rfl rfl 2 (by decide) (hts _ qfl_X3_28) (fun _ h9 => h9) rfl hin rfl (by decide +kernel) rfl rfl (Nat.le_of_ble_eq_true rfl) dX3_init_34 (fun H locs hP hD hS => ?_)
  have hP : va_P D vwCl ([(b, .inr (4, [.ref q1, .ref q3, .ref q5, .null, .null, .int 0, .int 0]))] ++ AccW cA u2.1 u2.2 ++ JouW cA u4.1 u4.2 ++ ProW cA u6.1 u6.2) H := hP
  have hD : va_D A ([(b, .inr (4, [.ref q1, .ref q3, .ref q5, .null, .null, .int 0, .int 0]))] ++ AccW cA u2.1 u2.2 ++ JouW cA u4.1 u4.2 ++ ProW cA u6.1 u6.2) := hD
  refine lv_aload_n hx hb dX3_init_37 rfl (lv_at hl 0 rfl) ?_
  refine va_new (ci := 10) (fs := [.null, .null, .int 0]) (C := RX11) (T := TX11) (N := 3) hx hb hts iX11 tyX11 tyX11_ok hown (hts _ qcs_X3_32) (hts _ qit_X11) (hts _ qini_X11) hK hP hD hS hA rfl (by decide) (by rw [← erm]; exact Nat.le_of_ble_eq_true rfl) (by rw [← erm]; exact Nat.le_of_ble_eq_true rfl) dX3_init_38 (fun q7 H hP hD hS => ?_)
  refine lv_dup hx hb dX3_init_41 rfl ?_
  refine nCall (a := ([(b, .inr (4, [.ref q1, .ref q3, .ref q5, .null, .null, .int 0, .int 0]))] ++ AccW cA u2.1 u2.2 ++ JouW cA u4.1 u4.2 ++ ProW cA u6.1 u6.2 : va_W)) (nRunIN (rest := [.ref q7, .ref b]) ⟨hx, hb, hml, hown, hts⟩ (nX11_init l D cA ad ae q7 _) qco_X11_init qmn_X3_34 qin_X11_init qini_X11 (by decide +kernel) rfl (by rw [← erm]; rfl) hN hE hS hA hK hP hD rfl hl.1 rfl (lv_room (Nat.le_of_ble_eq_true rfl)) dX3_init_42 ⟨(by rw [← erm]; exact Nat.le_of_ble_eq_true rfl), (by rw [← erm]; exact Nat.le_of_ble_eq_true rfl)⟩) hP hD hS hA (fun u8 pu8 H locs hP hD hS => ?_)
  have hP : va_P D vwCl ([(b, .inr (4, [.ref q1, .ref q3, .ref q5, .null, .null, .int 0, .int 0]))] ++ AccW cA u2.1 u2.2 ++ JouW cA u4.1 u4.2 ++ ProW cA u6.1 u6.2 ++ WarW cA u8.1 u8.2) H := hP
  have hD : va_D A ([(b, .inr (4, [.ref q1, .ref q3, .ref q5, .null, .null, .int 0, .int 0]))] ++ AccW cA u2.1 u2.2 ++ JouW cA u4.1 u4.2 ++ ProW cA u6.1 u6.2 ++ WarW cA u8.1 u8.2) := hD
  refine va_putF (D := D) (ci := 4) (v := .ref q7) (ty := .object "TheatreLedger$Wardrobe") (C := RX3) (T := TX3) (N := 7) hx hb hts iX3 tyX3 tyX3_ok nmX3 hown hK hP hD hS 0 rfl rfl 3 (by decide) (hts _ qfl_X3_35) (fun _ h9 => h9) rfl hin rfl (by decide +kernel) rfl rfl (Nat.le_of_ble_eq_true rfl) dX3_init_45 (fun H locs hP hD hS => ?_)
  have hP : va_P D vwCl ([(b, .inr (4, [.ref q1, .ref q3, .ref q5, .ref q7, .null, .int 0, .int 0]))] ++ AccW cA u2.1 u2.2 ++ JouW cA u4.1 u4.2 ++ ProW cA u6.1 u6.2 ++ WarW cA u8.1 u8.2) H := hP
  have hD : va_D A ([(b, .inr (4, [.ref q1, .ref q3, .ref q5, .ref q7, .null, .int 0, .int 0]))] ++ AccW cA u2.1 u2.2 ++ JouW cA u4.1 u4.2 ++ ProW cA u6.1 u6.2 ++ WarW cA u8.1 u8.2) := hD
  refine lv_aload_n hx hb dX3_init_48 rfl (lv_at hl 0 rfl) ?_
  refine va_new (ci := 3) (fs := [.null, .null, .int 0, .int 0]) (C := RX2) (T := TX2) (N := 4) hx hb hts iX2 tyX2 tyX2_ok hown (hts _ qcs_X3_39) (hts _ qit_X2) (hts _ qini_X2) hK hP hD hS hA rfl (by decide) (by rw [← erm]; exact Nat.le_of_ble_eq_true rfl) (by rw [← erm]; exact Nat.le_of_ble_eq_true rfl) dX3_init_49 (fun q9 H hP hD hS => ?_)
  refine lv_dup hx hb dX3_init_52 rfl ?_
  refine nCall (a := ([(b, .inr (4, [.ref q1, .ref q3, .ref q5, .ref q7, .null, .int 0, .int 0]))] ++ AccW cA u2.1 u2.2 ++ JouW cA u4.1 u4.2 ++ ProW cA u6.1 u6.2 ++ WarW cA u8.1 u8.2 : va_W)) (nRunIN (rest := [.ref q9, .ref b]) ⟨hx, hb, hml, hown, hts⟩ (nX2_init l D cA ad ae q9 _) qco_X2_init qmn_X3_41 qin_X2_init qini_X2 (by decide +kernel) rfl (by rw [← erm]; rfl) hN hE hS hA hK hP hD rfl hl.1 rfl (lv_room (Nat.le_of_ble_eq_true rfl)) dX3_init_53 ⟨(by rw [← erm]; exact Nat.le_of_ble_eq_true rfl), (by rw [← erm]; exact Nat.le_of_ble_eq_true rfl)⟩) hP hD hS hA (fun u10 pu10 H locs hP hD hS => ?_)
  have hP : va_P D vwCl ([(b, .inr (4, [.ref q1, .ref q3, .ref q5, .ref q7, .null, .int 0, .int 0]))] ++ AccW cA u2.1 u2.2 ++ JouW cA u4.1 u4.2 ++ ProW cA u6.1 u6.2 ++ WarW cA u8.1 u8.2 ++ BilW cA u10.1 u10.2) H := hP
  have hD : va_D A ([(b, .inr (4, [.ref q1, .ref q3, .ref q5, .ref q7, .null, .int 0, .int 0]))] ++ AccW cA u2.1 u2.2 ++ JouW cA u4.1 u4.2 ++ ProW cA u6.1 u6.2 ++ WarW cA u8.1 u8.2 ++ BilW cA u10.1 u10.2) := hD
  refine va_putF (D := D) (ci := 4) (v := .ref q9) (ty := .object "TheatreLedger$Bills") (C := RX3) (T := TX3) (N := 7) hx hb hts iX3 tyX3 tyX3_ok nmX3 hown hK hP hD hS 0 rfl rfl 4 (by decide) (hts _ qfl_X3_42) (fun _ h9 => h9) rfl hin rfl (by decide +kernel) rfl rfl (Nat.le_of_ble_eq_true rfl) dX3_init_56 (fun H locs hP hD hS => ?_)
  have hP : va_P D vwCl ([(b, .inr (4, [.ref q1, .ref q3, .ref q5, .ref q7, .ref q9, .int 0, .int 0]))] ++ AccW cA u2.1 u2.2 ++ JouW cA u4.1 u4.2 ++ ProW cA u6.1 u6.2 ++ WarW cA u8.1 u8.2 ++ BilW cA u10.1 u10.2) H := hP
  have hD : va_D A ([(b, .inr (4, [.ref q1, .ref q3, .ref q5, .ref q7, .ref q9, .int 0, .int 0]))] ++ AccW cA u2.1 u2.2 ++ JouW cA u4.1 u4.2 ++ ProW cA u6.1 u6.2 ++ WarW cA u8.1 u8.2 ++ BilW cA u10.1 u10.2) := hD
  obtain ⟨eu2, ru2⟩ := pu2
  subst eu2
  obtain ⟨eu4, ru4⟩ := pu4
  subst eu4
  obtain ⟨eu6, ru6⟩ := pu6
  subst eu6
  obtain ⟨eu8, ru8⟩ := pu8
  subst eu8
  obtain ⟨eu10, ru10⟩ := pu10
  subst eu10
  exact nRet (F := fun u : (Nat → Nat) × BooS => BooW cA u.1 u.2) (px := fun u => u.1 0 = b ∧ RBo u.2 sG0) (fun k => if k = 0 then b else if k < 6 then u2.1 (k - 1) else if k < 12 then u4.1 (k - 6) else if k < 19 then u6.1 (k - 12) else if k < 22 then u8.1 (k - 19) else if k < 25 then u10.1 (k - 22) else 0, (u2.2, u4.2, u6.2, u8.2, u10.2, 0, 0)) hx hb hr hlocks ⟨rfl, ru2, ru4, ru6, ru8, ru10, rfl, rfl⟩ hP hK hD hS dX3_init_59
