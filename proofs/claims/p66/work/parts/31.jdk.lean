/-! members without a world -/
def fJ9_min_7cf53 (N : Nat) (a0 : Int32) (a1 : Int32)  : Option (Int32) :=
  xjoin (fun (t0_1 : Int32) =>
      some t0_1
    ) fun J10 =>
  if a1 < a0 then
    J10 a1
  else
    J10 a0
set_option maxRecDepth 100000 in
set_option maxHeartbeats 4000000 in
theorem kJ9_min_7cf53 (l : Launch) (D : va_G) (cA : Nat → ClassId)  (sz N : Nat) (a0 : Int32) (a1 : Int32)  (q : Int32) (h : fJ9_min_7cf53 N a0 a1 = some q) : xM l yJ9_min_7cf53 cJ9_min_7cf53 2 (some .int) ({ frames := 0, cells := 0, slots := 0, locals := 0 }) D cA (([] : va_W)) sz [.int a0, .int a1] (some (.int q)) (([] : va_W)) := by
  generalize erm : ({ frames := 0, cells := 0, slots := 0, locals := 0 } : Room) = rm
  refine xMetF (by decide +kernel) (Nat.le_of_ble_eq_true rfl) ?_
  intro p e s m below meth c hx hb hr hlocks hml hts hown hin hK hP A eA hD hS hA hsz ls hl
  have hl : lv_has ls 2 [(0, .int a0), (1, .int a1)] := hl
  clear eA
  rw [fJ9_min_7cf53] at h
  refine lv_iload_n hx hb dJ9_min_7cf53_0 rfl (lv_at hl 0 rfl) ?_
  refine lv_iload_n hx hb dJ9_min_7cf53_1 rfl (lv_at hl 1 rfl) ?_
  obtain ⟨J10, eJ10, h⟩ := x_join h
  have hJ_J10 : ∀ (t0_1 : Int32) (H : Heap) (locs : List Loc), va_P D vwCl (([] : va_W)) H → va_D A (([] : va_W)) → va_S A s.heap H locs → ∀ ls : Array Slot, lv_has ls 2 [] → J10 t0_1 = some q → W p l e rm s m ([.int a0, .int a1] : List Value).toArray below meth c H locs 0 0 (MQ below (xQ D cA A (([] : va_W)) (some (.int q))) ([.int a0, .int a1] : List Value).toArray s 0 0 A) (F0 m 10 ls [.int t0_1]) := by
    clear h hP hD hS hl
    intro t0_1 H locs hP hD hS ls hl h
    rw [eJ10] at h
    have h := Option.some.inj h
    subst h
    exact xIret hx hb hr hlocks hP hK hD hS dJ9_min_7cf53_10
  refine lv_icmp_gt (tgt := 9) hx hb dJ9_min_7cf53_2 (by decide) (fun c2 => ?_) (fun c2 => ?_)
  · have h := x_t h c2
    refine lv_iload_n hx hb dJ9_min_7cf53_9 rfl (lv_at hl 1 rfl) ?_
    exact hJ_J10 a1 _ _ hP hD hS _ (lv_sub hl [] rfl) h
  · have h := x_f h c2
    refine lv_iload_n hx hb dJ9_min_7cf53_5 rfl (lv_at hl 0 rfl) ?_
    refine lv_goto (tgt := 10) hx hb dJ9_min_7cf53_6 (by decide) ?_
    exact hJ_J10 a0 _ _ hP hD hS _ (lv_sub hl [] rfl) h
def fJ9_max_7cf53 (N : Nat) (a0 : Int32) (a1 : Int32)  : Option (Int32) :=
  xjoin (fun (t0_1 : Int32) =>
      some t0_1
    ) fun J10 =>
  if a0 < a1 then
    J10 a1
  else
    J10 a0
set_option maxRecDepth 100000 in
set_option maxHeartbeats 4000000 in
theorem kJ9_max_7cf53 (l : Launch) (D : va_G) (cA : Nat → ClassId)  (sz N : Nat) (a0 : Int32) (a1 : Int32)  (q : Int32) (h : fJ9_max_7cf53 N a0 a1 = some q) : xM l yJ9_max_7cf53 cJ9_max_7cf53 2 (some .int) ({ frames := 0, cells := 0, slots := 0, locals := 0 }) D cA (([] : va_W)) sz [.int a0, .int a1] (some (.int q)) (([] : va_W)) := by
  generalize erm : ({ frames := 0, cells := 0, slots := 0, locals := 0 } : Room) = rm
  refine xMetF (by decide +kernel) (Nat.le_of_ble_eq_true rfl) ?_
  intro p e s m below meth c hx hb hr hlocks hml hts hown hin hK hP A eA hD hS hA hsz ls hl
  have hl : lv_has ls 2 [(0, .int a0), (1, .int a1)] := hl
  clear eA
  rw [fJ9_max_7cf53] at h
  refine lv_iload_n hx hb dJ9_max_7cf53_0 rfl (lv_at hl 0 rfl) ?_
  refine lv_iload_n hx hb dJ9_max_7cf53_1 rfl (lv_at hl 1 rfl) ?_
  obtain ⟨J10, eJ10, h⟩ := x_join h
  have hJ_J10 : ∀ (t0_1 : Int32) (H : Heap) (locs : List Loc), va_P D vwCl (([] : va_W)) H → va_D A (([] : va_W)) → va_S A s.heap H locs → ∀ ls : Array Slot, lv_has ls 2 [] → J10 t0_1 = some q → W p l e rm s m ([.int a0, .int a1] : List Value).toArray below meth c H locs 0 0 (MQ below (xQ D cA A (([] : va_W)) (some (.int q))) ([.int a0, .int a1] : List Value).toArray s 0 0 A) (F0 m 10 ls [.int t0_1]) := by
    clear h hP hD hS hl
    intro t0_1 H locs hP hD hS ls hl h
    rw [eJ10] at h
    have h := Option.some.inj h
    subst h
    exact xIret hx hb hr hlocks hP hK hD hS dJ9_max_7cf53_10
  refine lv_icmp_lt (tgt := 9) hx hb dJ9_max_7cf53_2 (by decide) (fun c2 => ?_) (fun c2 => ?_)
  · have h := x_t h c2
    refine lv_iload_n hx hb dJ9_max_7cf53_9 rfl (lv_at hl 1 rfl) ?_
    exact hJ_J10 a1 _ _ hP hD hS _ (lv_sub hl [] rfl) h
  · have h := x_f h c2
    refine lv_iload_n hx hb dJ9_max_7cf53_5 rfl (lv_at hl 0 rfl) ?_
    refine lv_goto (tgt := 10) hx hb dJ9_max_7cf53_6 (by decide) ?_
    exact hJ_J10 a0 _ _ hP hD hS _ (lv_sub hl [] rfl) h
def fJ9_floorMod_7cf53 (N : Nat) (a0 : Int32) (a1 : Int32)  : Option (Int32) :=
  xnz (decide (¬ a1 = 0)) <|
  xlet (a0 - a0 / a1 * a1) fun x2 =>
  xjoin (fun (v2_3 : Int32) =>
      some v2_3
    ) fun J18 =>
  if 0 ≤ (a0 ^^^ a1) then
    J18 x2
  else
    if x2 = 0 then
      J18 x2
    else
      some (x2 + a1)
set_option maxRecDepth 100000 in
set_option maxHeartbeats 4000000 in
theorem kJ9_floorMod_7cf53 (l : Launch) (D : va_G) (cA : Nat → ClassId)  (sz N : Nat) (a0 : Int32) (a1 : Int32)  (q : Int32) (h : fJ9_floorMod_7cf53 N a0 a1 = some q) : xM l yJ9_floorMod_7cf53 cJ9_floorMod_7cf53 3 (some .int) ({ frames := 0, cells := 0, slots := 0, locals := 0 }) D cA (([] : va_W)) sz [.int a0, .int a1] (some (.int q)) (([] : va_W)) := by
  generalize erm : ({ frames := 0, cells := 0, slots := 0, locals := 0 } : Room) = rm
  refine xMetF (by decide +kernel) (Nat.le_of_ble_eq_true rfl) ?_
  intro p e s m below meth c hx hb hr hlocks hml hts hown hin hK hP A eA hD hS hA hsz ls hl
  have hl : lv_has ls 3 [(0, .int a0), (1, .int a1)] := hl
  clear eA
  rw [fJ9_floorMod_7cf53] at h
  refine lv_iload_n hx hb dJ9_floorMod_7cf53_0 rfl (lv_at hl 0 rfl) ?_
  refine lv_iload_n hx hb dJ9_floorMod_7cf53_1 rfl (lv_at hl 1 rfl) ?_
  obtain ⟨z1, h⟩ := x_nz h
  refine lv_irem hx hb dJ9_floorMod_7cf53_2 (of_decide_eq_true z1) ?_
  refine lv_topi (fun x2 ex2 => ?_)
  have h := x_let h ex2
  refine lv_istore_n (lv' := [(2, .int x2), (0, .int a0), (1, .int a1)]) hx hb dJ9_floorMod_7cf53_3 rfl hl (by decide) rfl (fun ls hl => ?_)
  refine lv_iload_n hx hb dJ9_floorMod_7cf53_4 rfl (lv_at hl 1 rfl) ?_
  refine lv_iload_n hx hb dJ9_floorMod_7cf53_5 rfl (lv_at hl 2 rfl) ?_
  refine lv_ixor hx hb dJ9_floorMod_7cf53_6 ?_
  obtain ⟨J18, eJ18, h⟩ := x_join h
  have hJ_J18 : ∀ (v2_3 : Int32) (H : Heap) (locs : List Loc), va_P D vwCl (([] : va_W)) H → va_D A (([] : va_W)) → va_S A s.heap H locs → ∀ ls : Array Slot, lv_has ls 3 [(2, .int v2_3)] → J18 v2_3 = some q → W p l e rm s m ([.int a0, .int a1] : List Value).toArray below meth c H locs 0 0 (MQ below (xQ D cA A (([] : va_W)) (some (.int q))) ([.int a0, .int a1] : List Value).toArray s 0 0 A) (F0 m 18 ls []) := by
    clear h hP hD hS hl
    intro v2_3 H locs hP hD hS ls hl h
    rw [eJ18] at h
    refine lv_iload_n hx hb dJ9_floorMod_7cf53_18 rfl (lv_at hl 0 rfl) ?_
    have h := Option.some.inj h
    subst h
    exact xIret hx hb hr hlocks hP hK hD hS dJ9_floorMod_7cf53_19
  refine lv_if_ge (tgt := 18) hx hb dJ9_floorMod_7cf53_7 (by decide) (fun c4 => ?_) (fun c4 => ?_)
  · have h := x_t h c4
    exact hJ_J18 x2 _ _ hP hD hS _ (lv_sub hl [0] rfl) h
  · have h := x_f h c4
    refine lv_iload_n hx hb dJ9_floorMod_7cf53_10 rfl (lv_at hl 0 rfl) ?_
    refine lv_if_eq (tgt := 18) hx hb dJ9_floorMod_7cf53_11 (by decide) (fun c5 => ?_) (fun c5 => ?_)
    · have h := x_t h c5
      exact hJ_J18 x2 _ _ hP hD hS _ (lv_sub hl [0] rfl) h
    · have h := x_f h c5
      refine lv_iload_n hx hb dJ9_floorMod_7cf53_14 rfl (lv_at hl 0 rfl) ?_
      refine lv_iload_n hx hb dJ9_floorMod_7cf53_15 rfl (lv_at hl 2 rfl) ?_
      refine lv_iadd hx hb dJ9_floorMod_7cf53_16 ?_
      have h := Option.some.inj h
      subst h
      exact xIret hx hb hr hlocks hP hK hD hS dJ9_floorMod_7cf53_17
def fJ6_bitCount_0f7a4 (N : Nat) (a0 : Int32)  : Option (Int32) :=
  xlet (a0 - ((xushr a0 1) &&& 1431655765)) fun x1 =>
  xlet ((x1 &&& 858993459) + ((xushr x1 2) &&& 858993459)) fun x2 =>
  xlet ((x2 + (xushr x2 4)) &&& 252645135) fun x3 =>
  xlet (x3 + (xushr x3 8)) fun x4 =>
  xlet (x4 + (xushr x4 16)) fun x5 =>
  some (x5 &&& 63)
set_option maxRecDepth 100000 in
set_option maxHeartbeats 4000000 in
theorem kJ6_bitCount_0f7a4 (l : Launch) (D : va_G) (cA : Nat → ClassId)  (sz N : Nat) (a0 : Int32)  (q : Int32) (h : fJ6_bitCount_0f7a4 N a0 = some q) : xM l yJ6_bitCount_0f7a4 cJ6_bitCount_0f7a4 1 (some .int) ({ frames := 0, cells := 0, slots := 0, locals := 0 }) D cA (([] : va_W)) sz [.int a0] (some (.int q)) (([] : va_W)) := by
  generalize erm : ({ frames := 0, cells := 0, slots := 0, locals := 0 } : Room) = rm
  refine xMet (by decide) (Nat.le_of_ble_eq_true rfl) ?_
  intro p e s m below meth c hx hb hr hlocks hml hts hown hin hK hP A eA hD hS hA hsz ls hl
  have hl : lv_has ls 1 [(0, .int a0)] := hl
  clear eA
  rw [fJ6_bitCount_0f7a4] at h
  refine lv_iload_n hx hb dJ6_bitCount_0f7a4_0 rfl (lv_at hl 0 rfl) ?_
  refine lv_iload_n hx hb dJ6_bitCount_0f7a4_1 rfl (lv_at hl 0 rfl) ?_
  refine lv_iconst (v := 1) hx hb dJ6_bitCount_0f7a4_2 (by decide) ?_
  refine lv_iushr (v := xushr a0 1) hx hb dJ6_bitCount_0f7a4_3 rfl ?_
  refine lv_ldcw hx hb hown (hts _ qci_J6_265) dJ6_bitCount_0f7a4_4 ?_
  refine lv_iand hx hb dJ6_bitCount_0f7a4_7 ?_
  refine lv_isub hx hb dJ6_bitCount_0f7a4_8 ?_
  refine lv_topi (fun x1 ex1 => ?_)
  have h := x_let h ex1
  refine lv_istore_n (lv' := [(0, .int x1)]) hx hb dJ6_bitCount_0f7a4_9 rfl hl (by decide) rfl (fun ls hl => ?_)
  refine lv_iload_n hx hb dJ6_bitCount_0f7a4_10 rfl (lv_at hl 0 rfl) ?_
  refine lv_ldcw hx hb hown (hts _ qci_J6_266) dJ6_bitCount_0f7a4_11 ?_
  refine lv_iand hx hb dJ6_bitCount_0f7a4_14 ?_
  refine lv_iload_n hx hb dJ6_bitCount_0f7a4_15 rfl (lv_at hl 0 rfl) ?_
  refine lv_iconst (v := 2) hx hb dJ6_bitCount_0f7a4_16 (by decide) ?_
  refine lv_iushr (v := xushr x1 2) hx hb dJ6_bitCount_0f7a4_17 rfl ?_
  refine lv_ldcw hx hb hown (hts _ qci_J6_266) dJ6_bitCount_0f7a4_18 ?_
  refine lv_iand hx hb dJ6_bitCount_0f7a4_21 ?_
  refine lv_iadd hx hb dJ6_bitCount_0f7a4_22 ?_
  refine lv_topi (fun x2 ex2 => ?_)
  have h := x_let h ex2
  refine lv_istore_n (lv' := [(0, .int x2)]) hx hb dJ6_bitCount_0f7a4_23 rfl hl (by decide) rfl (fun ls hl => ?_)
  refine lv_iload_n hx hb dJ6_bitCount_0f7a4_24 rfl (lv_at hl 0 rfl) ?_
  refine lv_iload_n hx hb dJ6_bitCount_0f7a4_25 rfl (lv_at hl 0 rfl) ?_
  refine lv_iconst (v := 4) hx hb dJ6_bitCount_0f7a4_26 (by decide) ?_
  refine lv_iushr (v := xushr x2 4) hx hb dJ6_bitCount_0f7a4_27 rfl ?_
  refine lv_iadd hx hb dJ6_bitCount_0f7a4_28 ?_
  refine lv_ldcw hx hb hown (hts _ qci_J6_267) dJ6_bitCount_0f7a4_29 ?_
  refine lv_iand hx hb dJ6_bitCount_0f7a4_32 ?_
  refine lv_topi (fun x3 ex3 => ?_)
  have h := x_let h ex3
  refine lv_istore_n (lv' := [(0, .int x3)]) hx hb dJ6_bitCount_0f7a4_33 rfl hl (by decide) rfl (fun ls hl => ?_)
  refine lv_iload_n hx hb dJ6_bitCount_0f7a4_34 rfl (lv_at hl 0 rfl) ?_
  refine lv_iload_n hx hb dJ6_bitCount_0f7a4_35 rfl (lv_at hl 0 rfl) ?_
  refine lv_bipush (v := 8) hx hb dJ6_bitCount_0f7a4_36 (by decide) ?_
  refine lv_iushr (v := xushr x3 8) hx hb dJ6_bitCount_0f7a4_38 rfl ?_
  refine lv_iadd hx hb dJ6_bitCount_0f7a4_39 ?_
  refine lv_topi (fun x4 ex4 => ?_)
  have h := x_let h ex4
  refine lv_istore_n (lv' := [(0, .int x4)]) hx hb dJ6_bitCount_0f7a4_40 rfl hl (by decide) rfl (fun ls hl => ?_)
  refine lv_iload_n hx hb dJ6_bitCount_0f7a4_41 rfl (lv_at hl 0 rfl) ?_
  refine lv_iload_n hx hb dJ6_bitCount_0f7a4_42 rfl (lv_at hl 0 rfl) ?_
  refine lv_bipush (v := 16) hx hb dJ6_bitCount_0f7a4_43 (by decide) ?_
  refine lv_iushr (v := xushr x4 16) hx hb dJ6_bitCount_0f7a4_45 rfl ?_
  refine lv_iadd hx hb dJ6_bitCount_0f7a4_46 ?_
  refine lv_topi (fun x5 ex5 => ?_)
  have h := x_let h ex5
  refine lv_istore_n (lv' := [(0, .int x5)]) hx hb dJ6_bitCount_0f7a4_47 rfl hl (by decide) rfl (fun ls hl => ?_)
  refine lv_iload_n hx hb dJ6_bitCount_0f7a4_48 rfl (lv_at hl 0 rfl) ?_
  refine lv_bipush (v := 63) hx hb dJ6_bitCount_0f7a4_49 (by decide) ?_
  refine lv_iand hx hb dJ6_bitCount_0f7a4_51 ?_
  have h := Option.some.inj h
  subst h
  exact xIret hx hb hr hlocks hP hK hD hS dJ6_bitCount_0f7a4_52
def fX12_isWithin (N : Nat) (a0 : Int32) (a1 : Int32) (a2 : Int32)  : Option (Int32) :=
  xjoin (fun (t0_1 : Int32) =>
      xnz (xnar .boolean t0_1) <|
      some t0_1
    ) fun J15 =>
  xjoin (fun (u_3 : Unit) =>
      J15 0
    ) fun J14 =>
  if a0 < a1 then
    J14 ()
  else
    if a2 < a0 then
      J14 ()
    else
      J15 1
set_option maxRecDepth 100000 in
set_option maxHeartbeats 4000000 in
theorem kX12_isWithin (l : Launch) (D : va_G) (cA : Nat → ClassId)  (sz N : Nat) (a0 : Int32) (a1 : Int32) (a2 : Int32)  (q : Int32) (h : fX12_isWithin N a0 a1 a2 = some q) : xM l yX12_isWithin cX12_isWithin 3 (some .boolean) ({ frames := 0, cells := 0, slots := 0, locals := 0 }) D cA (([] : va_W)) sz [.int a0, .int a1, .int a2] (some (.int q)) (([] : va_W)) := by
  generalize erm : ({ frames := 0, cells := 0, slots := 0, locals := 0 } : Room) = rm
  refine xMet (by decide) (Nat.le_of_ble_eq_true rfl) ?_
  intro p e s m below meth c hx hb hr hlocks hml hts hown hin hK hP A eA hD hS hA hsz ls hl
  have hl : lv_has ls 3 [(0, .int a0), (1, .int a1), (2, .int a2)] := hl
  clear eA
  rw [fX12_isWithin] at h
  refine lv_iload_n hx hb dX12_isWithin_0 rfl (lv_at hl 0 rfl) ?_
  refine lv_iload_n hx hb dX12_isWithin_1 rfl (lv_at hl 1 rfl) ?_
  obtain ⟨J15, eJ15, h⟩ := x_join h
  have hJ_J15 : ∀ (t0_1 : Int32) (H : Heap) (locs : List Loc), va_P D vwCl (([] : va_W)) H → va_D A (([] : va_W)) → va_S A s.heap H locs → ∀ ls : Array Slot, lv_has ls 3 [] → J15 t0_1 = some q → W p l e rm s m ([.int a0, .int a1, .int a2] : List Value).toArray below meth c H locs 0 0 (MQ below (xQ D cA A (([] : va_W)) (some (.int q))) ([.int a0, .int a1, .int a2] : List Value).toArray s 0 0 A) (F0 m 15 ls [.int t0_1]) := by
    clear h hP hD hS hl
    intro t0_1 H locs hP hD hS ls hl h
    rw [eJ15] at h
    obtain ⟨z2, h⟩ := x_nz h
    have h := Option.some.inj h
    subst h
    exact xZret hx hb hr hlocks (xnar_n z2) hP hK hD hS dX12_isWithin_15
  obtain ⟨J14, eJ14, h⟩ := x_join h
  have hJ_J14 : ∀ (u_3 : Unit) (H : Heap) (locs : List Loc), va_P D vwCl (([] : va_W)) H → va_D A (([] : va_W)) → va_S A s.heap H locs → ∀ ls : Array Slot, lv_has ls 3 [] → J14 u_3 = some q → W p l e rm s m ([.int a0, .int a1, .int a2] : List Value).toArray below meth c H locs 0 0 (MQ below (xQ D cA A (([] : va_W)) (some (.int q))) ([.int a0, .int a1, .int a2] : List Value).toArray s 0 0 A) (F0 m 14 ls []) := by
    clear h hP hD hS hl
    intro u_3 H locs hP hD hS ls hl h
    rw [eJ14] at h
    refine lv_iconst (v := 0) hx hb dX12_isWithin_14 (by decide) ?_
    exact hJ_J15 0 _ _ hP hD hS _ (lv_sub hl [] rfl) h
  refine lv_icmp_lt (tgt := 14) hx hb dX12_isWithin_2 (by decide) (fun c4 => ?_) (fun c4 => ?_)
  · have h := x_t h c4
    exact hJ_J14 () _ _ hP hD hS _ (lv_sub hl [] rfl) h
  · have h := x_f h c4
    refine lv_iload_n hx hb dX12_isWithin_5 rfl (lv_at hl 0 rfl) ?_
    refine lv_iload_n hx hb dX12_isWithin_6 rfl (lv_at hl 2 rfl) ?_
    refine lv_icmp_gt (tgt := 14) hx hb dX12_isWithin_7 (by decide) (fun c5 => ?_) (fun c5 => ?_)
    · have h := x_t h c5
      exact hJ_J14 () _ _ hP hD hS _ (lv_sub hl [] rfl) h
    · have h := x_f h c5
      refine lv_iconst (v := 1) hx hb dX12_isWithin_10 (by decide) ?_
      refine lv_goto (tgt := 15) hx hb dX12_isWithin_11 (by decide) ?_
      exact hJ_J15 1 _ _ hP hD hS _ (lv_sub hl [] rfl) h
def fX12_isKind (N : Nat) (a0 : Int32)  : Option (Int32) :=
  xjoin (fun (t0_1 : Int32) =>
      xnz (xnar .boolean t0_1) <|
      some t0_1
    ) fun J29 =>
  xjoin (fun (u_3 : Unit) =>
      J29 1
    ) fun J24 =>
  if a0 = 97 then
    J24 ()
  else
    if a0 = 108 then
      J24 ()
    else
      if a0 = 105 then
        J24 ()
      else
        if a0 = 101 then
          J24 ()
        else
          J29 0
set_option maxRecDepth 100000 in
set_option maxHeartbeats 4000000 in
theorem kX12_isKind (l : Launch) (D : va_G) (cA : Nat → ClassId)  (sz N : Nat) (a0 : Int32)  (q : Int32) (h : fX12_isKind N a0 = some q) : xM l yX12_isKind cX12_isKind 1 (some .boolean) ({ frames := 0, cells := 0, slots := 0, locals := 0 }) D cA (([] : va_W)) sz [.int a0] (some (.int q)) (([] : va_W)) := by
  generalize erm : ({ frames := 0, cells := 0, slots := 0, locals := 0 } : Room) = rm
  refine xMet (by decide) (Nat.le_of_ble_eq_true rfl) ?_
  intro p e s m below meth c hx hb hr hlocks hml hts hown hin hK hP A eA hD hS hA hsz ls hl
  have hl : lv_has ls 1 [(0, .int a0)] := hl
  clear eA
  rw [fX12_isKind] at h
  refine lv_iload_n hx hb dX12_isKind_0 rfl (lv_at hl 0 rfl) ?_
  refine lv_bipush (v := 97) hx hb dX12_isKind_1 (by decide) ?_
  obtain ⟨J29, eJ29, h⟩ := x_join h
  have hJ_J29 : ∀ (t0_1 : Int32) (H : Heap) (locs : List Loc), va_P D vwCl (([] : va_W)) H → va_D A (([] : va_W)) → va_S A s.heap H locs → ∀ ls : Array Slot, lv_has ls 1 [] → J29 t0_1 = some q → W p l e rm s m ([.int a0] : List Value).toArray below meth c H locs 0 0 (MQ below (xQ D cA A (([] : va_W)) (some (.int q))) ([.int a0] : List Value).toArray s 0 0 A) (F0 m 29 ls [.int t0_1]) := by
    clear h hP hD hS hl
    intro t0_1 H locs hP hD hS ls hl h
    rw [eJ29] at h
    obtain ⟨z2, h⟩ := x_nz h
    have h := Option.some.inj h
    subst h
    exact xZret hx hb hr hlocks (xnar_n z2) hP hK hD hS dX12_isKind_29
  obtain ⟨J24, eJ24, h⟩ := x_join h
  have hJ_J24 : ∀ (u_3 : Unit) (H : Heap) (locs : List Loc), va_P D vwCl (([] : va_W)) H → va_D A (([] : va_W)) → va_S A s.heap H locs → ∀ ls : Array Slot, lv_has ls 1 [] → J24 u_3 = some q → W p l e rm s m ([.int a0] : List Value).toArray below meth c H locs 0 0 (MQ below (xQ D cA A (([] : va_W)) (some (.int q))) ([.int a0] : List Value).toArray s 0 0 A) (F0 m 24 ls []) := by
    clear h hP hD hS hl
    intro u_3 H locs hP hD hS ls hl h
    rw [eJ24] at h
    refine lv_iconst (v := 1) hx hb dX12_isKind_24 (by decide) ?_
    refine lv_goto (tgt := 29) hx hb dX12_isKind_25 (by decide) ?_
    exact hJ_J29 1 _ _ hP hD hS _ (lv_sub hl [] rfl) h
  refine lv_icmp_eq (tgt := 24) hx hb dX12_isKind_3 (by decide) (fun c4 => ?_) (fun c4 => ?_)
  · have h := x_t h c4
    exact hJ_J24 () _ _ hP hD hS _ (lv_sub hl [] rfl) h
  · have h := x_f h c4
    refine lv_iload_n hx hb dX12_isKind_6 rfl (lv_at hl 0 rfl) ?_
    refine lv_bipush (v := 108) hx hb dX12_isKind_7 (by decide) ?_
    refine lv_icmp_eq (tgt := 24) hx hb dX12_isKind_9 (by decide) (fun c5 => ?_) (fun c5 => ?_)
    · have h := x_t h c5
      exact hJ_J24 () _ _ hP hD hS _ (lv_sub hl [] rfl) h
    · have h := x_f h c5
      refine lv_iload_n hx hb dX12_isKind_12 rfl (lv_at hl 0 rfl) ?_
      refine lv_bipush (v := 105) hx hb dX12_isKind_13 (by decide) ?_
      refine lv_icmp_eq (tgt := 24) hx hb dX12_isKind_15 (by decide) (fun c6 => ?_) (fun c6 => ?_)
      · have h := x_t h c6
        exact hJ_J24 () _ _ hP hD hS _ (lv_sub hl [] rfl) h
      · have h := x_f h c6
        refine lv_iload_n hx hb dX12_isKind_18 rfl (lv_at hl 0 rfl) ?_
        refine lv_bipush (v := 101) hx hb dX12_isKind_19 (by decide) ?_
        refine lv_icmp_ne (tgt := 28) hx hb dX12_isKind_21 (by decide) (fun c7 => ?_) (fun c7 => ?_)
        · have h := x_f h c7
          refine lv_iconst (v := 0) hx hb dX12_isKind_28 (by decide) ?_
          exact hJ_J29 0 _ _ hP hD hS _ (lv_sub hl [] rfl) h
        · have h := x_t h c7
          exact hJ_J24 () _ _ hP hD hS _ (lv_sub hl [] rfl) h
def fX12_isInSet (N : Nat) (a0 : Int32) (a1 : Int32)  : Option (Int32) :=
  xjoin (fun (t0_1 : Int32) =>
      xnz (xnar .boolean t0_1) <|
      some t0_1
    ) fun J14 =>
  if ((a1 >>> (a0 &&& 31)) &&& 1) = 1 then
    J14 1
  else
    J14 0
set_option maxRecDepth 100000 in
set_option maxHeartbeats 4000000 in
theorem kX12_isInSet (l : Launch) (D : va_G) (cA : Nat → ClassId)  (sz N : Nat) (a0 : Int32) (a1 : Int32)  (q : Int32) (h : fX12_isInSet N a0 a1 = some q) : xM l yX12_isInSet cX12_isInSet 2 (some .boolean) ({ frames := 0, cells := 0, slots := 0, locals := 0 }) D cA (([] : va_W)) sz [.int a0, .int a1] (some (.int q)) (([] : va_W)) := by
  generalize erm : ({ frames := 0, cells := 0, slots := 0, locals := 0 } : Room) = rm
  refine xMet (by decide) (Nat.le_of_ble_eq_true rfl) ?_
  intro p e s m below meth c hx hb hr hlocks hml hts hown hin hK hP A eA hD hS hA hsz ls hl
  have hl : lv_has ls 2 [(0, .int a0), (1, .int a1)] := hl
  clear eA
  rw [fX12_isInSet] at h
  refine lv_iload_n hx hb dX12_isInSet_0 rfl (lv_at hl 1 rfl) ?_
  refine lv_iload_n hx hb dX12_isInSet_1 rfl (lv_at hl 0 rfl) ?_
  refine lv_ishr hx hb dX12_isInSet_2 ?_
  refine lv_iconst (v := 1) hx hb dX12_isInSet_3 (by decide) ?_
  refine lv_iand hx hb dX12_isInSet_4 ?_
  refine lv_iconst (v := 1) hx hb dX12_isInSet_5 (by decide) ?_
  obtain ⟨J14, eJ14, h⟩ := x_join h
  have hJ_J14 : ∀ (t0_1 : Int32) (H : Heap) (locs : List Loc), va_P D vwCl (([] : va_W)) H → va_D A (([] : va_W)) → va_S A s.heap H locs → ∀ ls : Array Slot, lv_has ls 2 [] → J14 t0_1 = some q → W p l e rm s m ([.int a0, .int a1] : List Value).toArray below meth c H locs 0 0 (MQ below (xQ D cA A (([] : va_W)) (some (.int q))) ([.int a0, .int a1] : List Value).toArray s 0 0 A) (F0 m 14 ls [.int t0_1]) := by
    clear h hP hD hS hl
    intro t0_1 H locs hP hD hS ls hl h
    rw [eJ14] at h
    obtain ⟨z2, h⟩ := x_nz h
    have h := Option.some.inj h
    subst h
    exact xZret hx hb hr hlocks (xnar_n z2) hP hK hD hS dX12_isInSet_14
  refine lv_icmp_ne (tgt := 13) hx hb dX12_isInSet_6 (by decide) (fun c3 => ?_) (fun c3 => ?_)
  · have h := x_f h c3
    refine lv_iconst (v := 0) hx hb dX12_isInSet_13 (by decide) ?_
    exact hJ_J14 0 _ _ hP hD hS _ (lv_sub hl [] rfl) h
  · have h := x_t h c3
    refine lv_iconst (v := 1) hx hb dX12_isInSet_9 (by decide) ?_
    refine lv_goto (tgt := 14) hx hb dX12_isInSet_10 (by decide) ?_
    exact hJ_J14 1 _ _ hP hD hS _ (lv_sub hl [] rfl) h
