/-! method by method: what it computes, and that its bytes compute it -/
def fX9_append (N : Nat) (a1 : Int32) (s0 : ScrS) : Option (Int32 × ScrS) :=
  xjoin (fun (s0_1 : ScrS) =>
      some (s0_1.2.1, s0_1)
    ) fun J29 =>
  if 60 ≤ s0.2.1 then
    J29 s0
  else
    xrd 60 s0.2.1 fun k3 =>
    xlet (upd s0.1 k3 (vp_nar .char a1)) fun g4 =>
    xlet (s0.2.1 + 1) fun x5 =>
    J29 ((Scrs1 (Scrs0 s0 g4) x5))
set_option maxRecDepth 100000 in
set_option maxHeartbeats 4000000 in
theorem kX9_append (l : Launch) (D : va_G) (cA : Nat → ClassId) (ad : Nat → Nat) (h0 : Nat → Nat) (sz N : Nat) (a1 : Int32) (s0 : ScrS) (q : Int32 × ScrS) (h : fX9_append N a1 s0 = some q) : zM l yX9_append cX9_append 2 (some .int) ({ frames := 0, cells := 0, slots := 0, locals := 0 }) D cA ad (ScrW cA ad h0 s0) sz [.ref (h0 0), .int a1] (some (.int q.1)) (ScrW cA ad h0 q.2) := by
  generalize erm : ({ frames := 0, cells := 0, slots := 0, locals := 0 } : Room) = rm
  refine zMet (by decide) (Nat.le_of_ble_eq_true rfl) ?_
  intro p e s m below meth c hx hb hr hlocks hml hts hown hin hK hP A eA hD hS hA hsz hN hE ls hl
  have hl : lv_has ls 2 [(0, .ref (h0 0)), (1, .int a1)] := hl
  clear eA
  rw [fX9_append] at h
  refine lv_aload_n hx hb dX9_append_0 rfl (lv_at hl 0 rfl) ?_
  refine va_get (D := D) (ci := 9) (v := .int s0.2.1) (C := RX9) (T := TX9) (N := 6) hx hb hts iX9 hown hK hP 0 rfl rfl 1 (by decide) (hts _ qfl_X9_25) (fun _ h9 => h9) rfl dX9_append_1 ?_
  refine lv_bipush (v := 60) hx hb dX9_append_4 (by decide) ?_
  obtain ⟨J29, eJ29, h⟩ := x_join h
  have hJ_J29 : ∀ (s0_1 : ScrS) (H : Heap) (locs : List Loc), va_P D vwCl (ScrW cA ad h0 s0_1) H → va_D A (ScrW cA ad h0 s0_1) → va_S A s.heap H locs → ∀ ls : Array Slot, lv_has ls 2 [(0, .ref (h0 0))] → J29 s0_1 = some q → W p l e rm s m ([.ref (h0 0), .int a1] : List Value).toArray below meth c H locs 0 0 (MQ below (xQ D cA A (ScrW cA ad h0 q.2) (some (.int q.1))) ([.ref (h0 0), .int a1] : List Value).toArray s 0 0 A) (F0 m 29 ls []) := by
    clear h hP hD hS hl
    intro s0_1 H locs hP hD hS ls hl h
    rw [eJ29] at h
    refine lv_aload_n hx hb dX9_append_29 rfl (lv_at hl 0 rfl) ?_
    refine va_get (D := D) (ci := 9) (v := .int s0_1.2.1) (C := RX9) (T := TX9) (N := 6) hx hb hts iX9 hown hK hP 0 rfl rfl 1 (by decide) (hts _ qfl_X9_25) (fun _ h9 => h9) rfl dX9_append_30 ?_
    have h := Option.some.inj h
    subst h
    exact xIret hx hb hr hlocks hP hK hD hS dX9_append_33
  refine lv_icmp_ge (tgt := 29) hx hb dX9_append_6 (by decide) (fun c2 => ?_) (fun c2 => ?_)
  · have h := x_t h c2
    exact hJ_J29 s0 _ _ hP hD hS _ (lv_sub hl [0] rfl) h
  · have h := x_f h c2
    refine lv_aload_n hx hb dX9_append_9 rfl (lv_at hl 0 rfl) ?_
    refine va_get (D := D) (ci := 9) (v := .ref (h0 1)) (C := RX9) (T := TX9) (N := 6) hx hb hts iX9 hown hK hP 0 rfl rfl 0 (by decide) (hts _ qfl_X9_9) (fun _ h9 => h9) rfl dX9_append_10 ?_
    refine lv_aload_n hx hb dX9_append_13 rfl (lv_at hl 0 rfl) ?_
    refine va_get (D := D) (ci := 9) (v := .int s0.2.1) (C := RX9) (T := TX9) (N := 6) hx hb hts iX9 hown hK hP 0 rfl rfl 1 (by decide) (hts _ qfl_X9_25) (fun _ h9 => h9) rfl dX9_append_14 ?_
    refine lv_iload_n hx hb dX9_append_17 rfl (lv_at hl 1 rfl) ?_
    obtain ⟨k3, hk3, h⟩ := x_rd h
    refine xCast (w2 := fun zz => ScrW cA ad h0 ((Scrs0 s0 zz))) hx hb hK hP hD hS 1 1 rfl rfl hk3 (fun _ => rfl) dX9_append_18 (fun g4 eg4 H locs hP hD hS => ?_)
    have h := x_let h eg4
    have hP : va_P D vwCl (ScrW cA ad h0 ((Scrs0 s0 g4))) H := hP
    have hD : va_D A (ScrW cA ad h0 ((Scrs0 s0 g4))) := hD
    refine lv_aload_n hx hb dX9_append_19 rfl (lv_at hl 0 rfl) ?_
    refine lv_dup hx hb dX9_append_20 rfl ?_
    refine va_get (D := D) (ci := 9) (v := .int s0.2.1) (C := RX9) (T := TX9) (N := 6) hx hb hts iX9 hown hK hP 0 rfl rfl 1 (by decide) (hts _ qfl_X9_25) (fun _ h9 => h9) rfl dX9_append_21 ?_
    refine lv_iconst (v := 1) hx hb dX9_append_24 (by decide) ?_
    refine lv_iadd hx hb dX9_append_25 ?_
    refine lv_topi (fun x5 ex5 => ?_)
    have h := x_let h ex5
    refine va_put (D := D) (ci := 9) (v := .int x5) (ty := .int) (C := RX9) (T := TX9) (N := 6) hx hb hts iX9 tyX9 tyX9_ok nmX9 hown hK hP hD hS 0 rfl rfl 1 (by decide) (hts _ qfl_X9_25) (fun _ h9 => h9) rfl (by decide +kernel) rfl rfl (Nat.le_of_ble_eq_true rfl) dX9_append_26 (fun H locs hP hD hS => ?_)
    have hP : va_P D vwCl (ScrW cA ad h0 ((Scrs1 (Scrs0 s0 g4) x5))) H := hP
    have hD : va_D A (ScrW cA ad h0 ((Scrs1 (Scrs0 s0 g4) x5))) := hD
    exact hJ_J29 ((Scrs1 (Scrs0 s0 g4) x5)) _ _ hP hD hS _ (lv_sub hl [0] rfl) h
def fX9_verbAt (N : Nat) (a1 : Int32) (s0 : ScrS) : Option (Option Nat) :=
  xrd 12 a1 fun k1 =>
  some (s0.2.2.1 k1)
set_option maxRecDepth 100000 in
set_option maxHeartbeats 4000000 in
theorem kX9_verbAt (l : Launch) (D : va_G) (cA : Nat → ClassId) (ad : Nat → Nat) (h0 : Nat → Nat) (sz N : Nat) (a1 : Int32) (s0 : ScrS) (q : Option Nat) (h : fX9_verbAt N a1 s0 = some q) : zM l yX9_verbAt cX9_verbAt 2 (some (.object "TheatreLedger$Verb")) ({ frames := 0, cells := 0, slots := 0, locals := 0 }) D cA ad (ScrW cA ad h0 s0) sz [.ref (h0 0), .int a1] (some (va_re ad q)) (ScrW cA ad h0 s0) := by
  generalize erm : ({ frames := 0, cells := 0, slots := 0, locals := 0 } : Room) = rm
  refine zMet (by decide) (Nat.le_of_ble_eq_true rfl) ?_
  intro p e s m below meth c hx hb hr hlocks hml hts hown hin hK hP A eA hD hS hA hsz hN hE ls hl
  have hl : lv_has ls 2 [(0, .ref (h0 0)), (1, .int a1)] := hl
  clear eA
  rw [fX9_verbAt] at h
  refine lv_aload_n hx hb dX9_verbAt_0 rfl (lv_at hl 0 rfl) ?_
  refine va_get (D := D) (ci := 9) (v := .ref (h0 2)) (C := RX9) (T := TX9) (N := 6) hx hb hts iX9 hown hK hP 0 rfl rfl 2 (by decide) (hts _ qfl_X9_17) (fun _ h9 => h9) rfl dX9_verbAt_1 ?_
  refine lv_iload_n hx hb dX9_verbAt_4 rfl (lv_at hl 1 rfl) ?_
  obtain ⟨k1, hk1, h⟩ := x_rd h
  refine zQald (ad := ad) (f := s0.2.2.1) hx hb hK hP 2 5 rfl rfl hk1 dX9_verbAt_5 ?_
  have h := Option.some.inj h
  subst h
  exact zAretQ (r := s0.2.2.1 k1) hx hb hr hlocks hP hK hD hS dX9_verbAt_6
def fX9_valueAt (N : Nat) (a1 : Int32) (a2 : Int32) (s0 : ScrS) : Option (Int32) :=
  xrd 36 ((a1 * 3) + a2) fun k1 =>
  some (s0.2.2.2.1 k1)
set_option maxRecDepth 100000 in
set_option maxHeartbeats 4000000 in
theorem kX9_valueAt (l : Launch) (D : va_G) (cA : Nat → ClassId) (ad : Nat → Nat) (h0 : Nat → Nat) (sz N : Nat) (a1 : Int32) (a2 : Int32) (s0 : ScrS) (q : Int32) (h : fX9_valueAt N a1 a2 s0 = some q) : zM l yX9_valueAt cX9_valueAt 3 (some .int) ({ frames := 0, cells := 0, slots := 0, locals := 0 }) D cA ad (ScrW cA ad h0 s0) sz [.ref (h0 0), .int a1, .int a2] (some (.int q)) (ScrW cA ad h0 s0) := by
  generalize erm : ({ frames := 0, cells := 0, slots := 0, locals := 0 } : Room) = rm
  refine zMet (by decide) (Nat.le_of_ble_eq_true rfl) ?_
  intro p e s m below meth c hx hb hr hlocks hml hts hown hin hK hP A eA hD hS hA hsz hN hE ls hl
  have hl : lv_has ls 3 [(0, .ref (h0 0)), (1, .int a1), (2, .int a2)] := hl
  clear eA
  rw [fX9_valueAt] at h
  refine lv_aload_n hx hb dX9_valueAt_0 rfl (lv_at hl 0 rfl) ?_
  refine va_get (D := D) (ci := 9) (v := .ref (h0 3)) (C := RX9) (T := TX9) (N := 6) hx hb hts iX9 hown hK hP 0 rfl rfl 3 (by decide) (hts _ qfl_X9_21) (fun _ h9 => h9) rfl dX9_valueAt_1 ?_
  refine lv_iload_n hx hb dX9_valueAt_4 rfl (lv_at hl 1 rfl) ?_
  refine lv_iconst (v := 3) hx hb dX9_valueAt_5 (by decide) ?_
  refine lv_imul hx hb dX9_valueAt_6 ?_
  refine lv_iload_n hx hb dX9_valueAt_7 rfl (lv_at hl 2 rfl) ?_
  refine lv_iadd hx hb dX9_valueAt_8 ?_
  obtain ⟨k1, hk1, h⟩ := x_rd h
  refine xIald hx hb hK hP 3 0 rfl rfl hk1 dX9_valueAt_9 ?_
  have h := Option.some.inj h
  subst h
  exact xIret hx hb hr hlocks hP hK hD hS dX9_valueAt_10
def fX9_sharedLetters_L2 (N : Nat) (s0 : ScrS) (K48 : Int32 → Option (Int32)) : Nat → Nat → Int32 → Option (Int32)
  | 0, _, _ => none
  | n + 1, v1_2, v2_2 =>
    xcall (fJ0_length_8abf5 N v1_2) fun q3 =>
    if q3 ≤ v2_2 then
      K48 v2_2
    else
      if s0.2.1 ≤ (s0.2.2.2.2.2 + v2_2) then
        K48 v2_2
      else
        xrd 60 (s0.2.2.2.2.2 + v2_2) fun k6 =>
        xcall (fJ0_charAt_5068e N v1_2 v2_2) fun q7 =>
        if (s0.1 k6) = q7 then
          xlet (v2_2 + (1)) fun x9 =>
          fX9_sharedLetters_L2 N s0 K48 n v1_2 x9
        else
          K48 v2_2
def fX9_sharedLetters (N : Nat) (a1 : Nat) (s0 : ScrS) : Option (Int32) :=
  xjoin (fun (v2_1 : Int32) =>
      some v2_1
    ) fun K48 =>
  fX9_sharedLetters_L2 N s0 K48 N a1 0
set_option maxRecDepth 100000 in
set_option maxHeartbeats 4000000 in
theorem kX9_sharedLetters (l : Launch) (D : va_G) (cA : Nat → ClassId) (ad : Nat → Nat) (h0 : Nat → Nat) (sz N : Nat) (a1 : Nat) (s0 : ScrS) (q : Int32) (h : fX9_sharedLetters N a1 s0 = some q) : zM l yX9_sharedLetters cX9_sharedLetters 3 (some .int) ({ frames := 4, cells := 0, slots := 0, locals := 85 }) D cA ad (ScrW cA ad h0 s0) sz [.ref (h0 0), .ref (ad a1)] (some (.int q)) (ScrW cA ad h0 s0) := by
  generalize erm : ({ frames := 4, cells := 0, slots := 0, locals := 85 } : Room) = rm
  refine zMet (by decide) (Nat.le_of_ble_eq_true rfl) ?_
  intro p e s m below meth c hx hb hr hlocks hml hts hown hin hK hP A eA hD hS hA hsz hN hE ls hl
  have hl : lv_has ls 3 [(0, .ref (h0 0)), (1, .ref (ad a1))] := hl
  clear eA
  rw [fX9_sharedLetters] at h
  refine lv_iconst (v := 0) hx hb dX9_sharedLetters_0 (by decide) ?_
  refine lv_istore_n (lv' := [(2, .int 0), (0, .ref (h0 0)), (1, .ref (ad a1))]) hx hb dX9_sharedLetters_1 rfl hl (by decide) rfl (fun ls hl => ?_)
  obtain ⟨K48, eK48, h⟩ := x_join h
  have hJ_K48 : ∀ (v2_1 : Int32) (H : Heap) (locs : List Loc), va_P D vwCl (ScrW cA ad h0 s0) H → va_D A (ScrW cA ad h0 s0) → va_S A s.heap H locs → ∀ ls : Array Slot, lv_has ls 3 [(2, .int v2_1)] → K48 v2_1 = some q → W p l e rm s m ([.ref (h0 0), .ref (ad a1)] : List Value).toArray below meth c H locs 0 0 (MQ below (xQ D cA A (ScrW cA ad h0 s0) (some (.int q))) ([.ref (h0 0), .ref (ad a1)] : List Value).toArray s 0 0 A) (F0 m 48 ls []) := by
    clear h hP hD hS hl
    intro v2_1 H locs hP hD hS ls hl h
    rw [eK48] at h
    refine lv_iload_n hx hb dX9_sharedLetters_48 rfl (lv_at hl 0 rfl) ?_
    have h := Option.some.inj h
    subst h
    exact xIret hx hb hr hlocks hP hK hD hS dX9_sharedLetters_49
  have hL2 : ∀ (n : Nat) (v1_2 : Nat) (v2_2 : Int32) (H : Heap) (locs : List Loc), va_P D vwCl (ScrW cA ad h0 s0) H → va_D A (ScrW cA ad h0 s0) → va_S A s.heap H locs → ∀ ls : Array Slot, lv_has ls 3 [(0, .ref (h0 0)), (1, .ref (ad v1_2)), (2, .int v2_2)] → fX9_sharedLetters_L2 N s0 K48 n v1_2 v2_2 = some q → W p l e rm s m ([.ref (h0 0), .ref (ad a1)] : List Value).toArray below meth c H locs 0 0 (MQ below (xQ D cA A (ScrW cA ad h0 s0) (some (.int q))) ([.ref (h0 0), .ref (ad a1)] : List Value).toArray s 0 0 A) (F0 m 2 ls []) := by
    clear h hP hD hS hl
    intro n
    induction n with
    | zero => intro v1_2 v2_2 H locs hP hD hS ls hl h; rw [fX9_sharedLetters_L2] at h; cases h
    | succ n ih =>
      intro v1_2 v2_2 H locs hP hD hS ls hl h
      rw [fX9_sharedLetters_L2] at h
      refine lv_iload_n hx hb dX9_sharedLetters_2 rfl (lv_at hl 2 rfl) ?_
      refine lv_aload_n hx hb dX9_sharedLetters_3 rfl (lv_at hl 1 rfl) ?_
      obtain ⟨q3, c3, h⟩ := x_call h
      refine xCall (w2 := ScrW cA ad h0 s0) (zRunVr (n := 0) (As := []) (rest := [.int v2_2]) ⟨hx, hb, hml, hown, hts⟩ (kJ0_length_8abf5 l D cA ad  _ N v1_2 q3 c3) qco_J0_length_8abf5 qml_X9_65 qin_J0_length_8abf5 qse_J0_length_8abf5 qini_J0 (by decide +kernel) (by rw [← erm]; rfl) hN hE hS hA hK hP hD [] rfl rfl (rJ0_length_8abf5 hE hS c3) rfl rfl hl.1 rfl (lv_room (Nat.le_of_ble_eq_true rfl)) dX9_sharedLetters_4 ⟨Nat.zero_le _, Nat.zero_le _⟩) hP hD hS hA [] [0, 1, 2, 3] [0, 1, 2, 3] rfl (wr := [(h0 0, .inr (9, [.ref (h0 1), .int (s0.2.1), .ref (h0 2), .ref (h0 3), .int (s0.2.2.2.2.1), .int (s0.2.2.2.2.2)])), (h0 1, .inl (cA 1, 60, .inl (s0.1))), (h0 2, .inl (cA 5, 12, .inr (.inr (.inr (.inr (fun k => (s0.2.2.1 k).map ad)))))), (h0 3, .inl (cA 0, 36, .inl (s0.2.2.2.1)))]) rfl rfl rfl rfl rfl (fun H locs hP hD hS => ?_)
      refine lv_icmp_ge (tgt := 48) hx hb dX9_sharedLetters_7 (by decide) (fun c4 => ?_) (fun c4 => ?_)
      · have h := x_t h c4
        exact hJ_K48 v2_2 _ _ hP hD hS _ (lv_sub hl [2] rfl) h
      · have h := x_f h c4
        refine lv_aload_n hx hb dX9_sharedLetters_10 rfl (lv_at hl 0 rfl) ?_
        refine va_get (D := D) (ci := 9) (v := .int s0.2.2.2.2.2) (C := RX9) (T := TX9) (N := 6) hx hb hts iX9 hown hK hP 0 rfl rfl 5 (by decide) (hts _ qfl_X9_29) (fun _ h9 => h9) rfl dX9_sharedLetters_11 ?_
        refine lv_iload_n hx hb dX9_sharedLetters_14 rfl (lv_at hl 2 rfl) ?_
        refine lv_iadd hx hb dX9_sharedLetters_15 ?_
        refine lv_aload_n hx hb dX9_sharedLetters_16 rfl (lv_at hl 0 rfl) ?_
        refine va_get (D := D) (ci := 9) (v := .int s0.2.1) (C := RX9) (T := TX9) (N := 6) hx hb hts iX9 hown hK hP 0 rfl rfl 1 (by decide) (hts _ qfl_X9_25) (fun _ h9 => h9) rfl dX9_sharedLetters_17 ?_
        refine lv_icmp_ge (tgt := 48) hx hb dX9_sharedLetters_20 (by decide) (fun c5 => ?_) (fun c5 => ?_)
        · have h := x_t h c5
          exact hJ_K48 v2_2 _ _ hP hD hS _ (lv_sub hl [2] rfl) h
        · have h := x_f h c5
          refine lv_aload_n hx hb dX9_sharedLetters_23 rfl (lv_at hl 0 rfl) ?_
          refine va_get (D := D) (ci := 9) (v := .ref (h0 1)) (C := RX9) (T := TX9) (N := 6) hx hb hts iX9 hown hK hP 0 rfl rfl 0 (by decide) (hts _ qfl_X9_9) (fun _ h9 => h9) rfl dX9_sharedLetters_24 ?_
          refine lv_aload_n hx hb dX9_sharedLetters_27 rfl (lv_at hl 0 rfl) ?_
          refine va_get (D := D) (ci := 9) (v := .int s0.2.2.2.2.2) (C := RX9) (T := TX9) (N := 6) hx hb hts iX9 hown hK hP 0 rfl rfl 5 (by decide) (hts _ qfl_X9_29) (fun _ h9 => h9) rfl dX9_sharedLetters_28 ?_
          refine lv_iload_n hx hb dX9_sharedLetters_31 rfl (lv_at hl 2 rfl) ?_
          refine lv_iadd hx hb dX9_sharedLetters_32 ?_
          obtain ⟨k6, hk6, h⟩ := x_rd h
          refine xCald hx hb hK hP 1 1 rfl rfl hk6 dX9_sharedLetters_33 ?_
          refine lv_aload_n hx hb dX9_sharedLetters_34 rfl (lv_at hl 1 rfl) ?_
          refine lv_iload_n hx hb dX9_sharedLetters_35 rfl (lv_at hl 2 rfl) ?_
          obtain ⟨q7, c7, h⟩ := x_call h
          refine xCall (w2 := ScrW cA ad h0 s0) (zRunVr (n := 1) (As := [.int v2_2]) (rest := [.int (s0.1 k6)]) ⟨hx, hb, hml, hown, hts⟩ (kJ0_charAt_5068e l D cA ad  _ N v1_2 v2_2 q7 c7) qco_J0_charAt_5068e qml_X9_76 qin_J0_charAt_5068e qse_J0_charAt_5068e qini_J0 (by decide +kernel) (by rw [← erm]; rfl) hN hE hS hA hK hP hD [] rfl rfl (rJ0_charAt_5068e hE hS c7) rfl rfl hl.1 rfl (lv_room (Nat.le_of_ble_eq_true rfl)) dX9_sharedLetters_36 ⟨Nat.zero_le _, Nat.zero_le _⟩) hP hD hS hA [] [0, 1, 2, 3] [0, 1, 2, 3] rfl (wr := [(h0 0, .inr (9, [.ref (h0 1), .int (s0.2.1), .ref (h0 2), .ref (h0 3), .int (s0.2.2.2.2.1), .int (s0.2.2.2.2.2)])), (h0 1, .inl (cA 1, 60, .inl (s0.1))), (h0 2, .inl (cA 5, 12, .inr (.inr (.inr (.inr (fun k => (s0.2.2.1 k).map ad)))))), (h0 3, .inl (cA 0, 36, .inl (s0.2.2.2.1)))]) rfl rfl rfl rfl rfl (fun H locs hP hD hS => ?_)
          refine lv_icmp_ne (tgt := 48) hx hb dX9_sharedLetters_39 (by decide) (fun c8 => ?_) (fun c8 => ?_)
          · have h := x_f h c8
            exact hJ_K48 v2_2 _ _ hP hD hS _ (lv_sub hl [2] rfl) h
          · have h := x_t h c8
            obtain ⟨x9, ex9⟩ : ∃ y : Int32, y = v2_2 + (1) := ⟨_, rfl⟩
            have h := x_let h ex9
            refine lv_iinc (v := x9) (lv' := [(2, .int x9), (0, .ref (h0 0)), (1, .ref (ad v1_2))]) hx hb dX9_sharedLetters_42 hl (k := 2) rfl (by rw [ex9]; rfl) (by decide) rfl (fun ls hl => ?_)
            refine lv_goto (tgt := 2) hx hb dX9_sharedLetters_45 (by decide) ?_
            exact ih v1_2 x9 _ _ hP hD hS _ (lv_sub hl [1, 2, 0] rfl) h
  exact hL2 N a1 0 _ _ hP hD hS _ (lv_sub hl [1, 2, 0] rfl) h
def fX9_readWord_L4 (N : Nat) (K66 : Int32 → ScrS → Option (Option Nat × ScrS)) : Nat → Int32 → Int32 → ScrS → Option (Option Nat × ScrS)
  | 0, _, _, _ => none
  | n + 1, v1_3, v2_3, s0_3 =>
    if 9 ≤ v2_3 then
      K66 v1_3 s0_3
    else
      xrd 9 v2_3 fun k5 =>
      xvb (10 + k5) fun j6 =>
      xcall (fX9_sharedLetters N (40 + j6) s0_3) fun q7 =>
      xvb (10 + k5) fun j8 =>
      xcall (fJ0_length_8abf5 N (40 + j8)) fun q9 =>
      if q7 = q9 then
        xlet (s0_3.2.2.2.2.2 + q7) fun x13 =>
        some (some (10 + k5), (Scrs5 s0_3 x13))
      else
        xcall (fJ9_max_7cf53 N v1_3 q7) fun q11 =>
        xlet (v2_3 + (1)) fun x12 =>
        fX9_readWord_L4 N K66 n q11 x12 s0_3
def fX9_readWord (N : Nat)  (s0 : ScrS) : Option (Option Nat × ScrS) :=
  xjoin (fun (v1_1 : Int32) (s0_1 : ScrS) =>
      xlet (s0_1.2.2.2.2.2 + v1_1) fun x2 =>
      some (none, (Scrs5 s0_1 x2))
    ) fun K66 =>
  fX9_readWord_L4 N K66 N 0 0 s0
set_option maxRecDepth 100000 in
set_option maxHeartbeats 4000000 in
theorem kX9_readWord (l : Launch) (D : va_G) (cA : Nat → ClassId) (ad : Nat → Nat) (h0 : Nat → Nat) (sz N : Nat)  (s0 : ScrS) (q : Option Nat × ScrS) (h : fX9_readWord N s0 = some q) : zM l yX9_readWord cX9_readWord 5 (some (.object "TheatreLedger$Verb")) ({ frames := 5, cells := 0, slots := 0, locals := 107 }) D cA ad (ScrW cA ad h0 s0) sz [.ref (h0 0)] (some (va_re ad q.1)) (ScrW cA ad h0 q.2) := by
  generalize erm : ({ frames := 5, cells := 0, slots := 0, locals := 107 } : Room) = rm
  refine zMet (by decide) (Nat.le_of_ble_eq_true rfl) ?_
  intro p e s m below meth c hx hb hr hlocks hml hts hown hin hK hP A eA hD hS hA hsz hN hE ls hl
  have hl : lv_has ls 5 [(0, .ref (h0 0))] := hl
  clear eA
  rw [fX9_readWord] at h
  refine lv_iconst (v := 0) hx hb dX9_readWord_0 (by decide) ?_
  refine lv_istore_n (lv' := [(1, .int 0), (0, .ref (h0 0))]) hx hb dX9_readWord_1 rfl hl (by decide) rfl (fun ls hl => ?_)
  refine lv_iconst (v := 0) hx hb dX9_readWord_2 (by decide) ?_
  refine lv_istore_n (lv' := [(2, .int 0), (1, .int 0), (0, .ref (h0 0))]) hx hb dX9_readWord_3 rfl hl (by decide) rfl (fun ls hl => ?_)
  obtain ⟨K66, eK66, h⟩ := x_join h
  have hJ_K66 : ∀ (v1_1 : Int32) (s0_1 : ScrS) (H : Heap) (locs : List Loc), va_P D vwCl (ScrW cA ad h0 s0_1) H → va_D A (ScrW cA ad h0 s0_1) → va_S A s.heap H locs → ∀ ls : Array Slot, lv_has ls 5 [(0, .ref (h0 0)), (1, .int v1_1)] → K66 v1_1 s0_1 = some q → W p l e rm s m ([.ref (h0 0)] : List Value).toArray below meth c H locs 0 0 (MQ below (xQ D cA A (ScrW cA ad h0 q.2) (some (va_re ad q.1))) ([.ref (h0 0)] : List Value).toArray s 0 0 A) (F0 m 66 ls []) := by
    clear h hP hD hS hl
    intro v1_1 s0_1 H locs hP hD hS ls hl h
    rw [eK66] at h
    refine lv_aload_n hx hb dX9_readWord_66 rfl (lv_at hl 0 rfl) ?_
    refine lv_dup hx hb dX9_readWord_67 rfl ?_
    refine va_get (D := D) (ci := 9) (v := .int s0_1.2.2.2.2.2) (C := RX9) (T := TX9) (N := 6) hx hb hts iX9 hown hK hP 0 rfl rfl 5 (by decide) (hts _ qfl_X9_29) (fun _ h9 => h9) rfl dX9_readWord_68 ?_
    refine lv_iload_n hx hb dX9_readWord_71 rfl (lv_at hl 1 rfl) ?_
    refine lv_iadd hx hb dX9_readWord_72 ?_
    refine lv_topi (fun x2 ex2 => ?_)
    have h := x_let h ex2
    refine va_put (D := D) (ci := 9) (v := .int x2) (ty := .int) (C := RX9) (T := TX9) (N := 6) hx hb hts iX9 tyX9 tyX9_ok nmX9 hown hK hP hD hS 0 rfl rfl 5 (by decide) (hts _ qfl_X9_29) (fun _ h9 => h9) rfl (by decide +kernel) rfl rfl (Nat.le_of_ble_eq_true rfl) dX9_readWord_73 (fun H locs hP hD hS => ?_)
    have hP : va_P D vwCl (ScrW cA ad h0 ((Scrs5 s0_1 x2))) H := hP
    have hD : va_D A (ScrW cA ad h0 ((Scrs5 s0_1 x2))) := hD
    refine lv_null hx hb dX9_readWord_76 ?_
    have h := Option.some.inj h
    subst h
    exact zAretQ (r := none) hx hb hr hlocks hP hK hD hS dX9_readWord_77
  have hL4 : ∀ (n : Nat) (v1_3 : Int32) (v2_3 : Int32) (s0_3 : ScrS) (H : Heap) (locs : List Loc), va_P D vwCl (ScrW cA ad h0 s0_3) H → va_D A (ScrW cA ad h0 s0_3) → va_S A s.heap H locs → ∀ ls : Array Slot, lv_has ls 5 [(0, .ref (h0 0)), (1, .int v1_3), (2, .int v2_3)] → fX9_readWord_L4 N K66 n v1_3 v2_3 s0_3 = some q → W p l e rm s m ([.ref (h0 0)] : List Value).toArray below meth c H locs 0 0 (MQ below (xQ D cA A (ScrW cA ad h0 q.2) (some (va_re ad q.1))) ([.ref (h0 0)] : List Value).toArray s 0 0 A) (F0 m 4 ls []) := by
    clear h hP hD hS hl
    intro n
    induction n with
    | zero => intro v1_3 v2_3 s0_3 H locs hP hD hS ls hl h; rw [fX9_readWord_L4] at h; cases h
    | succ n ih =>
      intro v1_3 v2_3 s0_3 H locs hP hD hS ls hl h
      rw [fX9_readWord_L4] at h
      refine lv_iload_n hx hb dX9_readWord_4 rfl (lv_at hl 2 rfl) ?_
      refine va_getsN hx hb hE.vs hS hown (hN.use qfn_X9_55) (fun _ h9 => h9) dX9_readWord_5 ?_
      refine va_tlen (v := 9) hx hb hE.vt hS rfl dX9_readWord_8 ?_
      refine lv_icmp_ge (tgt := 66) hx hb dX9_readWord_9 (by decide) (fun c4 => ?_) (fun c4 => ?_)
      · have h := x_t h c4
        exact hJ_K66 v1_3 s0_3 _ _ hP hD hS _ (lv_sub hl [0, 1] rfl) h
      · have h := x_f h c4
        refine va_getsN hx hb hE.vs hS hown (hN.use qfn_X9_55) (fun _ h9 => h9) dX9_readWord_12 ?_
        refine lv_iload_n hx hb dX9_readWord_15 rfl (lv_at hl 2 rfl) ?_
        obtain ⟨k5, hk5, h⟩ := x_rd h
        refine zVald hx hb hE hS hk5 dX9_readWord_16 ?_
        refine lv_astore_n (lv' := [(3, .ref (ad (10 + k5))), (0, .ref (h0 0)), (1, .int v1_3), (2, .int v2_3)]) hx hb dX9_readWord_17 rfl hl (by decide) rfl (fun ls hl => ?_)
        refine lv_aload_n hx hb dX9_readWord_18 rfl (lv_at hl 1 rfl) ?_
        refine lv_aload_n hx hb dX9_readWord_19 rfl (lv_at hl 0 rfl) ?_
        obtain ⟨j6, hj6, h⟩ := x_vb h
        refine zVword hx hb hE hS hown hj6 (hts _ qfl_X9_58) dX9_readWord_20 ?_
        obtain ⟨q7, c7, h⟩ := x_call h
        refine xCall (w2 := ScrW cA ad h0 s0_3) (zRunV (n := 1) (As := [.ref (ad (40 + j6))]) (rest := []) ⟨hx, hb, hml, hown, hts⟩ (kX9_sharedLetters l D cA ad h0 _ N (40 + j6) s0_3 q7 c7) qco_X9_sharedLetters qml_X9_61 qin_X9_sharedLetters qse_X9_sharedLetters qini_X9 (by decide +kernel) (by rw [← erm]; rfl) hN hE hS hA hK hP hD [0, 1, 2, 3] rfl rfl (q0 := 0) rfl rfl rfl rfl rfl hl.1 rfl (lv_room (Nat.le_of_ble_eq_true rfl)) dX9_readWord_23 ⟨Nat.zero_le _, Nat.zero_le _⟩) hP hD hS hA [0, 1, 2, 3] [] [0, 1, 2, 3] rfl (wr := []) rfl rfl rfl rfl rfl (fun H locs hP hD hS => ?_)
        refine lv_istore (lv' := [(4, .int q7), (3, .ref (ad (10 + k5))), (0, .ref (h0 0)), (1, .int v1_3), (2, .int v2_3)]) hx hb dX9_readWord_26 hl (by decide) rfl (fun ls hl => ?_)
        refine lv_iload hx hb dX9_readWord_28 (lv_at hl 0 rfl) ?_
        refine lv_aload_n hx hb dX9_readWord_30 rfl (lv_at hl 1 rfl) ?_
        obtain ⟨j8, hj8, h⟩ := x_vb h
        refine zVword hx hb hE hS hown hj8 (hts _ qfl_X9_58) dX9_readWord_31 ?_
        obtain ⟨q9, c9, h⟩ := x_call h
        refine xCall (w2 := ScrW cA ad h0 s0_3) (zRunVr (n := 0) (As := []) (rest := [.int q7]) ⟨hx, hb, hml, hown, hts⟩ (kJ0_length_8abf5 l D cA ad  _ N (40 + j8) q9 c9) qco_J0_length_8abf5 qml_X9_65 qin_J0_length_8abf5 qse_J0_length_8abf5 qini_J0 (by decide +kernel) (by rw [← erm]; rfl) hN hE hS hA hK hP hD [] rfl rfl (rJ0_length_8abf5 hE hS c9) rfl rfl hl.1 rfl (lv_room (Nat.le_of_ble_eq_true rfl)) dX9_readWord_34 ⟨Nat.zero_le _, Nat.zero_le _⟩) hP hD hS hA [] [0, 1, 2, 3] [0, 1, 2, 3] rfl (wr := [(h0 0, .inr (9, [.ref (h0 1), .int (s0_3.2.1), .ref (h0 2), .ref (h0 3), .int (s0_3.2.2.2.2.1), .int (s0_3.2.2.2.2.2)])), (h0 1, .inl (cA 1, 60, .inl (s0_3.1))), (h0 2, .inl (cA 5, 12, .inr (.inr (.inr (.inr (fun k => (s0_3.2.2.1 k).map ad)))))), (h0 3, .inl (cA 0, 36, .inl (s0_3.2.2.2.1)))]) rfl rfl rfl rfl rfl (fun H locs hP hD hS => ?_)
        refine lv_icmp_ne (tgt := 53) hx hb dX9_readWord_37 (by decide) (fun c10 => ?_) (fun c10 => ?_)
        · have h := x_f h c10
          refine lv_iload_n hx hb dX9_readWord_53 rfl (lv_at hl 3 rfl) ?_
          refine lv_iload hx hb dX9_readWord_54 (lv_at hl 0 rfl) ?_
          obtain ⟨q11, c11, h⟩ := x_call h
          refine xCall (w2 := ScrW cA ad h0 s0_3) (xRunS (n := 2) (As := [.int v1_3, .int q7]) (rest := []) ⟨hx, hb, hml, hown, hts⟩ (kJ9_max_7cf53 l D cA  _ N v1_3 q7 q11 c11) qco_J9_max_7cf53 qml_X9_70 qst_J9_max_7cf53 qini_J9 (by decide +kernel) (by rw [← erm]; rfl) hK hP hD [] rfl rfl rfl rfl hl.1 rfl (lv_room (Nat.le_of_ble_eq_true rfl)) dX9_readWord_56 ⟨Nat.zero_le _, Nat.zero_le _⟩) hP hD hS hA [] [0, 1, 2, 3] [0, 1, 2, 3] rfl (wr := [(h0 0, .inr (9, [.ref (h0 1), .int (s0_3.2.1), .ref (h0 2), .ref (h0 3), .int (s0_3.2.2.2.2.1), .int (s0_3.2.2.2.2.2)])), (h0 1, .inl (cA 1, 60, .inl (s0_3.1))), (h0 2, .inl (cA 5, 12, .inr (.inr (.inr (.inr (fun k => (s0_3.2.2.1 k).map ad)))))), (h0 3, .inl (cA 0, 36, .inl (s0_3.2.2.2.1)))]) rfl rfl rfl rfl rfl (fun H locs hP hD hS => ?_)
          refine lv_istore_n (lv' := [(1, .int q11), (4, .int q7), (3, .ref (ad (10 + k5))), (0, .ref (h0 0)), (2, .int v2_3)]) hx hb dX9_readWord_59 rfl hl (by decide) rfl (fun ls hl => ?_)
          obtain ⟨x12, ex12⟩ : ∃ y : Int32, y = v2_3 + (1) := ⟨_, rfl⟩
          have h := x_let h ex12
          refine lv_iinc (v := x12) (lv' := [(2, .int x12), (1, .int q11), (4, .int q7), (3, .ref (ad (10 + k5))), (0, .ref (h0 0))]) hx hb dX9_readWord_60 hl (k := 4) rfl (by rw [ex12]; rfl) (by decide) rfl (fun ls hl => ?_)
          refine lv_goto (tgt := 4) hx hb dX9_readWord_63 (by decide) ?_
          exact ih q11 x12 s0_3 _ _ hP hD hS _ (lv_sub hl [4, 1, 0] rfl) h
        · have h := x_t h c10
          refine lv_aload_n hx hb dX9_readWord_40 rfl (lv_at hl 2 rfl) ?_
          refine lv_dup hx hb dX9_readWord_41 rfl ?_
          refine va_get (D := D) (ci := 9) (v := .int s0_3.2.2.2.2.2) (C := RX9) (T := TX9) (N := 6) hx hb hts iX9 hown hK hP 0 rfl rfl 5 (by decide) (hts _ qfl_X9_29) (fun _ h9 => h9) rfl dX9_readWord_42 ?_
          refine lv_iload hx hb dX9_readWord_45 (lv_at hl 0 rfl) ?_
          refine lv_iadd hx hb dX9_readWord_47 ?_
          refine lv_topi (fun x13 ex13 => ?_)
          have h := x_let h ex13
          refine va_put (D := D) (ci := 9) (v := .int x13) (ty := .int) (C := RX9) (T := TX9) (N := 6) hx hb hts iX9 tyX9 tyX9_ok nmX9 hown hK hP hD hS 0 rfl rfl 5 (by decide) (hts _ qfl_X9_29) (fun _ h9 => h9) rfl (by decide +kernel) rfl rfl (Nat.le_of_ble_eq_true rfl) dX9_readWord_48 (fun H locs hP hD hS => ?_)
          have hP : va_P D vwCl (ScrW cA ad h0 ((Scrs5 s0_3 x13))) H := hP
          have hD : va_D A (ScrW cA ad h0 ((Scrs5 s0_3 x13))) := hD
          refine lv_aload_n hx hb dX9_readWord_51 rfl (lv_at hl 1 rfl) ?_
          have h := Option.some.inj h
          subst h
          exact zAret (a := ad (10 + k5)) hx hb hr hlocks hP hK hD hS dX9_readWord_52
  exact hL4 N 0 0 s0 _ _ hP hD hS _ (lv_sub hl [2, 1, 0] rfl) h
def fX9_isNext (N : Nat) (a1 : Int32) (s0 : ScrS) : Option (Int32) :=
  xjoin (fun (t0_1 : Int32) =>
      xnz (xnar .boolean t0_1) <|
      some t0_1
    ) fun J29 =>
  xjoin (fun (u_3 : Unit) =>
      J29 0
    ) fun J28 =>
  if s0.2.1 ≤ s0.2.2.2.2.2 then
    J28 ()
  else
    xrd 60 s0.2.2.2.2.2 fun k5 =>
    if (s0.1 k5) = a1 then
      J29 1
    else
      J28 ()
set_option maxRecDepth 100000 in
set_option maxHeartbeats 4000000 in
theorem kX9_isNext (l : Launch) (D : va_G) (cA : Nat → ClassId) (ad : Nat → Nat) (h0 : Nat → Nat) (sz N : Nat) (a1 : Int32) (s0 : ScrS) (q : Int32) (h : fX9_isNext N a1 s0 = some q) : zM l yX9_isNext cX9_isNext 2 (some .boolean) ({ frames := 0, cells := 0, slots := 0, locals := 0 }) D cA ad (ScrW cA ad h0 s0) sz [.ref (h0 0), .int a1] (some (.int q)) (ScrW cA ad h0 s0) := by
  generalize erm : ({ frames := 0, cells := 0, slots := 0, locals := 0 } : Room) = rm
  refine zMet (by decide) (Nat.le_of_ble_eq_true rfl) ?_
  intro p e s m below meth c hx hb hr hlocks hml hts hown hin hK hP A eA hD hS hA hsz hN hE ls hl
  have hl : lv_has ls 2 [(0, .ref (h0 0)), (1, .int a1)] := hl
  clear eA
  rw [fX9_isNext] at h
  refine lv_aload_n hx hb dX9_isNext_0 rfl (lv_at hl 0 rfl) ?_
  refine va_get (D := D) (ci := 9) (v := .int s0.2.2.2.2.2) (C := RX9) (T := TX9) (N := 6) hx hb hts iX9 hown hK hP 0 rfl rfl 5 (by decide) (hts _ qfl_X9_29) (fun _ h9 => h9) rfl dX9_isNext_1 ?_
  refine lv_aload_n hx hb dX9_isNext_4 rfl (lv_at hl 0 rfl) ?_
  refine va_get (D := D) (ci := 9) (v := .int s0.2.1) (C := RX9) (T := TX9) (N := 6) hx hb hts iX9 hown hK hP 0 rfl rfl 1 (by decide) (hts _ qfl_X9_25) (fun _ h9 => h9) rfl dX9_isNext_5 ?_
  obtain ⟨J29, eJ29, h⟩ := x_join h
  have hJ_J29 : ∀ (t0_1 : Int32) (H : Heap) (locs : List Loc), va_P D vwCl (ScrW cA ad h0 s0) H → va_D A (ScrW cA ad h0 s0) → va_S A s.heap H locs → ∀ ls : Array Slot, lv_has ls 2 [] → J29 t0_1 = some q → W p l e rm s m ([.ref (h0 0), .int a1] : List Value).toArray below meth c H locs 0 0 (MQ below (xQ D cA A (ScrW cA ad h0 s0) (some (.int q))) ([.ref (h0 0), .int a1] : List Value).toArray s 0 0 A) (F0 m 29 ls [.int t0_1]) := by
    clear h hP hD hS hl
    intro t0_1 H locs hP hD hS ls hl h
    rw [eJ29] at h
    obtain ⟨z2, h⟩ := x_nz h
    have h := Option.some.inj h
    subst h
    exact xZret hx hb hr hlocks (xnar_n z2) hP hK hD hS dX9_isNext_29
  obtain ⟨J28, eJ28, h⟩ := x_join h
  have hJ_J28 : ∀ (u_3 : Unit) (H : Heap) (locs : List Loc), va_P D vwCl (ScrW cA ad h0 s0) H → va_D A (ScrW cA ad h0 s0) → va_S A s.heap H locs → ∀ ls : Array Slot, lv_has ls 2 [] → J28 u_3 = some q → W p l e rm s m ([.ref (h0 0), .int a1] : List Value).toArray below meth c H locs 0 0 (MQ below (xQ D cA A (ScrW cA ad h0 s0) (some (.int q))) ([.ref (h0 0), .int a1] : List Value).toArray s 0 0 A) (F0 m 28 ls []) := by
    clear h hP hD hS hl
    intro u_3 H locs hP hD hS ls hl h
    rw [eJ28] at h
    refine lv_iconst (v := 0) hx hb dX9_isNext_28 (by decide) ?_
    exact hJ_J29 0 _ _ hP hD hS _ (lv_sub hl [] rfl) h
  refine lv_icmp_ge (tgt := 28) hx hb dX9_isNext_8 (by decide) (fun c4 => ?_) (fun c4 => ?_)
  · have h := x_t h c4
    exact hJ_J28 () _ _ hP hD hS _ (lv_sub hl [] rfl) h
  · have h := x_f h c4
    refine lv_aload_n hx hb dX9_isNext_11 rfl (lv_at hl 0 rfl) ?_
    refine va_get (D := D) (ci := 9) (v := .ref (h0 1)) (C := RX9) (T := TX9) (N := 6) hx hb hts iX9 hown hK hP 0 rfl rfl 0 (by decide) (hts _ qfl_X9_9) (fun _ h9 => h9) rfl dX9_isNext_12 ?_
    refine lv_aload_n hx hb dX9_isNext_15 rfl (lv_at hl 0 rfl) ?_
    refine va_get (D := D) (ci := 9) (v := .int s0.2.2.2.2.2) (C := RX9) (T := TX9) (N := 6) hx hb hts iX9 hown hK hP 0 rfl rfl 5 (by decide) (hts _ qfl_X9_29) (fun _ h9 => h9) rfl dX9_isNext_16 ?_
    obtain ⟨k5, hk5, h⟩ := x_rd h
    refine xCald hx hb hK hP 1 1 rfl rfl hk5 dX9_isNext_19 ?_
    refine lv_iload_n hx hb dX9_isNext_20 rfl (lv_at hl 1 rfl) ?_
    refine lv_icmp_ne (tgt := 28) hx hb dX9_isNext_21 (by decide) (fun c6 => ?_) (fun c6 => ?_)
    · have h := x_f h c6
      exact hJ_J28 () _ _ hP hD hS _ (lv_sub hl [] rfl) h
    · have h := x_t h c6
      refine lv_iconst (v := 1) hx hb dX9_isNext_24 (by decide) ?_
      refine lv_goto (tgt := 29) hx hb dX9_isNext_25 (by decide) ?_
      exact hJ_J29 1 _ _ hP hD hS _ (lv_sub hl [] rfl) h
def fX9_readKind (N : Nat)  (s0 : ScrS) : Option (Int32 × ScrS) :=
  xjoin (fun (s0_1 : ScrS) =>
      some ((-1), s0_1)
    ) fun J26 =>
  if s0.2.1 ≤ s0.2.2.2.2.2 then
    J26 s0
  else
    xrd 60 s0.2.2.2.2.2 fun k3 =>
    xcall (fX12_isKind N (s0.1 k3)) fun q4 =>
    if q4 = 0 then
      J26 s0
    else
      xlet (s0.2.2.2.2.2 + 1) fun x6 =>
      xrd 60 (x6 - 1) fun k7 =>
      some (s0.1 k7, (Scrs5 s0 x6))
set_option maxRecDepth 100000 in
set_option maxHeartbeats 4000000 in
theorem kX9_readKind (l : Launch) (D : va_G) (cA : Nat → ClassId) (ad : Nat → Nat) (h0 : Nat → Nat) (sz N : Nat)  (s0 : ScrS) (q : Int32 × ScrS) (h : fX9_readKind N s0 = some q) : zM l yX9_readKind cX9_readKind 1 (some .int) ({ frames := 1, cells := 0, slots := 0, locals := 20 }) D cA ad (ScrW cA ad h0 s0) sz [.ref (h0 0)] (some (.int q.1)) (ScrW cA ad h0 q.2) := by
  generalize erm : ({ frames := 1, cells := 0, slots := 0, locals := 20 } : Room) = rm
  refine zMet (by decide) (Nat.le_of_ble_eq_true rfl) ?_
  intro p e s m below meth c hx hb hr hlocks hml hts hown hin hK hP A eA hD hS hA hsz hN hE ls hl
  have hl : lv_has ls 1 [(0, .ref (h0 0))] := hl
  clear eA
  rw [fX9_readKind] at h
  refine lv_aload_n hx hb dX9_readKind_0 rfl (lv_at hl 0 rfl) ?_
  refine va_get (D := D) (ci := 9) (v := .int s0.2.2.2.2.2) (C := RX9) (T := TX9) (N := 6) hx hb hts iX9 hown hK hP 0 rfl rfl 5 (by decide) (hts _ qfl_X9_29) (fun _ h9 => h9) rfl dX9_readKind_1 ?_
  refine lv_aload_n hx hb dX9_readKind_4 rfl (lv_at hl 0 rfl) ?_
  refine va_get (D := D) (ci := 9) (v := .int s0.2.1) (C := RX9) (T := TX9) (N := 6) hx hb hts iX9 hown hK hP 0 rfl rfl 1 (by decide) (hts _ qfl_X9_25) (fun _ h9 => h9) rfl dX9_readKind_5 ?_
  obtain ⟨J26, eJ26, h⟩ := x_join h
  have hJ_J26 : ∀ (s0_1 : ScrS) (H : Heap) (locs : List Loc), va_P D vwCl (ScrW cA ad h0 s0_1) H → va_D A (ScrW cA ad h0 s0_1) → va_S A s.heap H locs → ∀ ls : Array Slot, lv_has ls 1 [] → J26 s0_1 = some q → W p l e rm s m ([.ref (h0 0)] : List Value).toArray below meth c H locs 0 0 (MQ below (xQ D cA A (ScrW cA ad h0 q.2) (some (.int q.1))) ([.ref (h0 0)] : List Value).toArray s 0 0 A) (F0 m 26 ls []) := by
    clear h hP hD hS hl
    intro s0_1 H locs hP hD hS ls hl h
    rw [eJ26] at h
    refine lv_iconst (v := (-1)) hx hb dX9_readKind_26 (by decide) ?_
    have h := Option.some.inj h
    subst h
    exact xIret hx hb hr hlocks hP hK hD hS dX9_readKind_27
  refine lv_icmp_ge (tgt := 26) hx hb dX9_readKind_8 (by decide) (fun c2 => ?_) (fun c2 => ?_)
  · have h := x_t h c2
    exact hJ_J26 s0 _ _ hP hD hS _ (lv_sub hl [] rfl) h
  · have h := x_f h c2
    refine lv_aload_n hx hb dX9_readKind_11 rfl (lv_at hl 0 rfl) ?_
    refine va_get (D := D) (ci := 9) (v := .ref (h0 1)) (C := RX9) (T := TX9) (N := 6) hx hb hts iX9 hown hK hP 0 rfl rfl 0 (by decide) (hts _ qfl_X9_9) (fun _ h9 => h9) rfl dX9_readKind_12 ?_
    refine lv_aload_n hx hb dX9_readKind_15 rfl (lv_at hl 0 rfl) ?_
    refine va_get (D := D) (ci := 9) (v := .int s0.2.2.2.2.2) (C := RX9) (T := TX9) (N := 6) hx hb hts iX9 hown hK hP 0 rfl rfl 5 (by decide) (hts _ qfl_X9_29) (fun _ h9 => h9) rfl dX9_readKind_16 ?_
    obtain ⟨k3, hk3, h⟩ := x_rd h
    refine xCald hx hb hK hP 1 1 rfl rfl hk3 dX9_readKind_19 ?_
    obtain ⟨q4, c4, h⟩ := x_call h
    refine xCall (w2 := ScrW cA ad h0 s0) (xRunSN (n := 1) (As := [.int (s0.1 k3)]) (rest := []) ⟨hx, hb, hml, hown, hts⟩ (kX12_isKind l D cA  _ N (s0.1 k3) q4 c4) qco_X12_isKind hN qmn_X9_87 qst_X12_isKind qini_X12 (by decide +kernel) (by rw [← erm]; rfl) hK rfl rfl hl.1 rfl (lv_room (Nat.le_of_ble_eq_true rfl)) dX9_readKind_20 ⟨Nat.zero_le _, Nat.zero_le _⟩) hP hD hS hA [] [0, 1, 2, 3] [0, 1, 2, 3] rfl (wr := [(h0 0, .inr (9, [.ref (h0 1), .int (s0.2.1), .ref (h0 2), .ref (h0 3), .int (s0.2.2.2.2.1), .int (s0.2.2.2.2.2)])), (h0 1, .inl (cA 1, 60, .inl (s0.1))), (h0 2, .inl (cA 5, 12, .inr (.inr (.inr (.inr (fun k => (s0.2.2.1 k).map ad)))))), (h0 3, .inl (cA 0, 36, .inl (s0.2.2.2.1)))]) rfl rfl rfl rfl rfl (fun H locs hP hD hS => ?_)
    refine lv_if_ne (tgt := 28) hx hb dX9_readKind_23 (by decide) (fun c5 => ?_) (fun c5 => ?_)
    · have h := x_f h c5
      refine lv_aload_n hx hb dX9_readKind_28 rfl (lv_at hl 0 rfl) ?_
      refine lv_dup hx hb dX9_readKind_29 rfl ?_
      refine va_get (D := D) (ci := 9) (v := .int s0.2.2.2.2.2) (C := RX9) (T := TX9) (N := 6) hx hb hts iX9 hown hK hP 0 rfl rfl 5 (by decide) (hts _ qfl_X9_29) (fun _ h9 => h9) rfl dX9_readKind_30 ?_
      refine lv_iconst (v := 1) hx hb dX9_readKind_33 (by decide) ?_
      refine lv_iadd hx hb dX9_readKind_34 ?_
      refine lv_topi (fun x6 ex6 => ?_)
      have h := x_let h ex6
      refine va_put (D := D) (ci := 9) (v := .int x6) (ty := .int) (C := RX9) (T := TX9) (N := 6) hx hb hts iX9 tyX9 tyX9_ok nmX9 hown hK hP hD hS 0 rfl rfl 5 (by decide) (hts _ qfl_X9_29) (fun _ h9 => h9) rfl (by decide +kernel) rfl rfl (Nat.le_of_ble_eq_true rfl) dX9_readKind_35 (fun H locs hP hD hS => ?_)
      have hP : va_P D vwCl (ScrW cA ad h0 ((Scrs5 s0 x6))) H := hP
      have hD : va_D A (ScrW cA ad h0 ((Scrs5 s0 x6))) := hD
      refine lv_aload_n hx hb dX9_readKind_38 rfl (lv_at hl 0 rfl) ?_
      refine va_get (D := D) (ci := 9) (v := .ref (h0 1)) (C := RX9) (T := TX9) (N := 6) hx hb hts iX9 hown hK hP 0 rfl rfl 0 (by decide) (hts _ qfl_X9_9) (fun _ h9 => h9) rfl dX9_readKind_39 ?_
      refine lv_aload_n hx hb dX9_readKind_42 rfl (lv_at hl 0 rfl) ?_
      refine va_get (D := D) (ci := 9) (v := .int x6) (C := RX9) (T := TX9) (N := 6) hx hb hts iX9 hown hK hP 0 rfl rfl 5 (by decide) (hts _ qfl_X9_29) (fun _ h9 => h9) rfl dX9_readKind_43 ?_
      refine lv_iconst (v := 1) hx hb dX9_readKind_46 (by decide) ?_
      refine lv_isub hx hb dX9_readKind_47 ?_
      obtain ⟨k7, hk7, h⟩ := x_rd h
      refine xCald hx hb hK hP 1 1 rfl rfl hk7 dX9_readKind_48 ?_
      have h := Option.some.inj h
      subst h
      exact xIret hx hb hr hlocks hP hK hD hS dX9_readKind_49
    · have h := x_t h c5
      exact hJ_J26 s0 _ _ hP hD hS _ (lv_sub hl [] rfl) h
def fX9_isDigitNext (N : Nat)  (s0 : ScrS) : Option (Int32) :=
  xjoin (fun (t0_1 : Int32) =>
      xnz (xnar .boolean t0_1) <|
      some t0_1
    ) fun J44 =>
  xjoin (fun (u_3 : Unit) =>
      J44 0
    ) fun J43 =>
  if s0.2.1 ≤ s0.2.2.2.2.2 then
    J43 ()
  else
    xrd 60 s0.2.2.2.2.2 fun k5 =>
    if (s0.1 k5) < 48 then
      J43 ()
    else
      xrd 60 s0.2.2.2.2.2 fun k7 =>
      if 57 < (s0.1 k7) then
        J43 ()
      else
        J44 1
set_option maxRecDepth 100000 in
set_option maxHeartbeats 4000000 in
theorem kX9_isDigitNext (l : Launch) (D : va_G) (cA : Nat → ClassId) (ad : Nat → Nat) (h0 : Nat → Nat) (sz N : Nat)  (s0 : ScrS) (q : Int32) (h : fX9_isDigitNext N s0 = some q) : zM l yX9_isDigitNext cX9_isDigitNext 1 (some .boolean) ({ frames := 0, cells := 0, slots := 0, locals := 0 }) D cA ad (ScrW cA ad h0 s0) sz [.ref (h0 0)] (some (.int q)) (ScrW cA ad h0 s0) := by
  generalize erm : ({ frames := 0, cells := 0, slots := 0, locals := 0 } : Room) = rm
  refine zMet (by decide) (Nat.le_of_ble_eq_true rfl) ?_
  intro p e s m below meth c hx hb hr hlocks hml hts hown hin hK hP A eA hD hS hA hsz hN hE ls hl
  have hl : lv_has ls 1 [(0, .ref (h0 0))] := hl
  clear eA
  rw [fX9_isDigitNext] at h
  refine lv_aload_n hx hb dX9_isDigitNext_0 rfl (lv_at hl 0 rfl) ?_
  refine va_get (D := D) (ci := 9) (v := .int s0.2.2.2.2.2) (C := RX9) (T := TX9) (N := 6) hx hb hts iX9 hown hK hP 0 rfl rfl 5 (by decide) (hts _ qfl_X9_29) (fun _ h9 => h9) rfl dX9_isDigitNext_1 ?_
  refine lv_aload_n hx hb dX9_isDigitNext_4 rfl (lv_at hl 0 rfl) ?_
  refine va_get (D := D) (ci := 9) (v := .int s0.2.1) (C := RX9) (T := TX9) (N := 6) hx hb hts iX9 hown hK hP 0 rfl rfl 1 (by decide) (hts _ qfl_X9_25) (fun _ h9 => h9) rfl dX9_isDigitNext_5 ?_
  obtain ⟨J44, eJ44, h⟩ := x_join h
  have hJ_J44 : ∀ (t0_1 : Int32) (H : Heap) (locs : List Loc), va_P D vwCl (ScrW cA ad h0 s0) H → va_D A (ScrW cA ad h0 s0) → va_S A s.heap H locs → ∀ ls : Array Slot, lv_has ls 1 [] → J44 t0_1 = some q → W p l e rm s m ([.ref (h0 0)] : List Value).toArray below meth c H locs 0 0 (MQ below (xQ D cA A (ScrW cA ad h0 s0) (some (.int q))) ([.ref (h0 0)] : List Value).toArray s 0 0 A) (F0 m 44 ls [.int t0_1]) := by
    clear h hP hD hS hl
    intro t0_1 H locs hP hD hS ls hl h
    rw [eJ44] at h
    obtain ⟨z2, h⟩ := x_nz h
    have h := Option.some.inj h
    subst h
    exact xZret hx hb hr hlocks (xnar_n z2) hP hK hD hS dX9_isDigitNext_44
  obtain ⟨J43, eJ43, h⟩ := x_join h
  have hJ_J43 : ∀ (u_3 : Unit) (H : Heap) (locs : List Loc), va_P D vwCl (ScrW cA ad h0 s0) H → va_D A (ScrW cA ad h0 s0) → va_S A s.heap H locs → ∀ ls : Array Slot, lv_has ls 1 [] → J43 u_3 = some q → W p l e rm s m ([.ref (h0 0)] : List Value).toArray below meth c H locs 0 0 (MQ below (xQ D cA A (ScrW cA ad h0 s0) (some (.int q))) ([.ref (h0 0)] : List Value).toArray s 0 0 A) (F0 m 43 ls []) := by
    clear h hP hD hS hl
    intro u_3 H locs hP hD hS ls hl h
    rw [eJ43] at h
    refine lv_iconst (v := 0) hx hb dX9_isDigitNext_43 (by decide) ?_
    exact hJ_J44 0 _ _ hP hD hS _ (lv_sub hl [] rfl) h
  refine lv_icmp_ge (tgt := 43) hx hb dX9_isDigitNext_8 (by decide) (fun c4 => ?_) (fun c4 => ?_)
  · have h := x_t h c4
    exact hJ_J43 () _ _ hP hD hS _ (lv_sub hl [] rfl) h
  · have h := x_f h c4
    refine lv_aload_n hx hb dX9_isDigitNext_11 rfl (lv_at hl 0 rfl) ?_
    refine va_get (D := D) (ci := 9) (v := .ref (h0 1)) (C := RX9) (T := TX9) (N := 6) hx hb hts iX9 hown hK hP 0 rfl rfl 0 (by decide) (hts _ qfl_X9_9) (fun _ h9 => h9) rfl dX9_isDigitNext_12 ?_
    refine lv_aload_n hx hb dX9_isDigitNext_15 rfl (lv_at hl 0 rfl) ?_
    refine va_get (D := D) (ci := 9) (v := .int s0.2.2.2.2.2) (C := RX9) (T := TX9) (N := 6) hx hb hts iX9 hown hK hP 0 rfl rfl 5 (by decide) (hts _ qfl_X9_29) (fun _ h9 => h9) rfl dX9_isDigitNext_16 ?_
    obtain ⟨k5, hk5, h⟩ := x_rd h
    refine xCald hx hb hK hP 1 1 rfl rfl hk5 dX9_isDigitNext_19 ?_
    refine lv_bipush (v := 48) hx hb dX9_isDigitNext_20 (by decide) ?_
    refine lv_icmp_lt (tgt := 43) hx hb dX9_isDigitNext_22 (by decide) (fun c6 => ?_) (fun c6 => ?_)
    · have h := x_t h c6
      exact hJ_J43 () _ _ hP hD hS _ (lv_sub hl [] rfl) h
    · have h := x_f h c6
      refine lv_aload_n hx hb dX9_isDigitNext_25 rfl (lv_at hl 0 rfl) ?_
      refine va_get (D := D) (ci := 9) (v := .ref (h0 1)) (C := RX9) (T := TX9) (N := 6) hx hb hts iX9 hown hK hP 0 rfl rfl 0 (by decide) (hts _ qfl_X9_9) (fun _ h9 => h9) rfl dX9_isDigitNext_26 ?_
      refine lv_aload_n hx hb dX9_isDigitNext_29 rfl (lv_at hl 0 rfl) ?_
      refine va_get (D := D) (ci := 9) (v := .int s0.2.2.2.2.2) (C := RX9) (T := TX9) (N := 6) hx hb hts iX9 hown hK hP 0 rfl rfl 5 (by decide) (hts _ qfl_X9_29) (fun _ h9 => h9) rfl dX9_isDigitNext_30 ?_
      obtain ⟨k7, hk7, h⟩ := x_rd h
      refine xCald hx hb hK hP 1 1 rfl rfl hk7 dX9_isDigitNext_33 ?_
      refine lv_bipush (v := 57) hx hb dX9_isDigitNext_34 (by decide) ?_
      refine lv_icmp_gt (tgt := 43) hx hb dX9_isDigitNext_36 (by decide) (fun c8 => ?_) (fun c8 => ?_)
      · have h := x_t h c8
        exact hJ_J43 () _ _ hP hD hS _ (lv_sub hl [] rfl) h
      · have h := x_f h c8
        refine lv_iconst (v := 1) hx hb dX9_isDigitNext_39 (by decide) ?_
        refine lv_goto (tgt := 44) hx hb dX9_isDigitNext_40 (by decide) ?_
        exact hJ_J44 1 _ _ hP hD hS _ (lv_sub hl [] rfl) h
def fX9_readNumber_L4 (N : Nat) (K54 : Int32 → ScrS → Option (Int32 × ScrS)) : Nat → Int32 → Int32 → Int32 → ScrS → Option (Int32 × ScrS)
  | 0, _, _, _, _ => none
  | n + 1, v1_2, v2_2, v3_2, s0_2 =>
    if v1_2 ≤ v3_2 then
      K54 v2_2 s0_2
    else
      xcall (fX9_isDigitNext N s0_2) fun q4 =>
      if q4 = 0 then
        K54 v2_2 s0_2
      else
        xcall (fJ9_max_7cf53 N v2_2 0) fun q6 =>
        xrd 60 s0_2.2.2.2.2.2 fun k7 =>
        xlet (((q6 * 10) + (s0_2.1 k7)) - 48) fun x8 =>
        xlet (s0_2.2.2.2.2.2 + 1) fun x9 =>
        xlet (v3_2 + (1)) fun x10 =>
        fX9_readNumber_L4 N K54 n v1_2 x8 x10 ((Scrs5 s0_2 x9))
def fX9_readNumber (N : Nat) (a1 : Int32) (s0 : ScrS) : Option (Int32 × ScrS) :=
  xjoin (fun (v2_1 : Int32) (s0_1 : ScrS) =>
      some (v2_1, s0_1)
    ) fun K54 =>
  fX9_readNumber_L4 N K54 N a1 (-1) 0 s0
set_option maxRecDepth 100000 in
set_option maxHeartbeats 4000000 in
theorem kX9_readNumber (l : Launch) (D : va_G) (cA : Nat → ClassId) (ad : Nat → Nat) (h0 : Nat → Nat) (sz N : Nat) (a1 : Int32) (s0 : ScrS) (q : Int32 × ScrS) (h : fX9_readNumber N a1 s0 = some q) : zM l yX9_readNumber cX9_readNumber 4 (some .int) ({ frames := 1, cells := 0, slots := 0, locals := 21 }) D cA ad (ScrW cA ad h0 s0) sz [.ref (h0 0), .int a1] (some (.int q.1)) (ScrW cA ad h0 q.2) := by
  generalize erm : ({ frames := 1, cells := 0, slots := 0, locals := 21 } : Room) = rm
  refine zMet (by decide) (Nat.le_of_ble_eq_true rfl) ?_
  intro p e s m below meth c hx hb hr hlocks hml hts hown hin hK hP A eA hD hS hA hsz hN hE ls hl
  have hl : lv_has ls 4 [(0, .ref (h0 0)), (1, .int a1)] := hl
  clear eA
  rw [fX9_readNumber] at h
  refine lv_iconst (v := (-1)) hx hb dX9_readNumber_0 (by decide) ?_
  refine lv_istore_n (lv' := [(2, .int (-1)), (0, .ref (h0 0)), (1, .int a1)]) hx hb dX9_readNumber_1 rfl hl (by decide) rfl (fun ls hl => ?_)
  refine lv_iconst (v := 0) hx hb dX9_readNumber_2 (by decide) ?_
  refine lv_istore_n (lv' := [(3, .int 0), (2, .int (-1)), (0, .ref (h0 0)), (1, .int a1)]) hx hb dX9_readNumber_3 rfl hl (by decide) rfl (fun ls hl => ?_)
  obtain ⟨K54, eK54, h⟩ := x_join h
  have hJ_K54 : ∀ (v2_1 : Int32) (s0_1 : ScrS) (H : Heap) (locs : List Loc), va_P D vwCl (ScrW cA ad h0 s0_1) H → va_D A (ScrW cA ad h0 s0_1) → va_S A s.heap H locs → ∀ ls : Array Slot, lv_has ls 4 [(2, .int v2_1)] → K54 v2_1 s0_1 = some q → W p l e rm s m ([.ref (h0 0), .int a1] : List Value).toArray below meth c H locs 0 0 (MQ below (xQ D cA A (ScrW cA ad h0 q.2) (some (.int q.1))) ([.ref (h0 0), .int a1] : List Value).toArray s 0 0 A) (F0 m 54 ls []) := by
    clear h hP hD hS hl
    intro v2_1 s0_1 H locs hP hD hS ls hl h
    rw [eK54] at h
    refine lv_iload_n hx hb dX9_readNumber_54 rfl (lv_at hl 0 rfl) ?_
    have h := Option.some.inj h
    subst h
    exact xIret hx hb hr hlocks hP hK hD hS dX9_readNumber_55
  have hL4 : ∀ (n : Nat) (v1_2 : Int32) (v2_2 : Int32) (v3_2 : Int32) (s0_2 : ScrS) (H : Heap) (locs : List Loc), va_P D vwCl (ScrW cA ad h0 s0_2) H → va_D A (ScrW cA ad h0 s0_2) → va_S A s.heap H locs → ∀ ls : Array Slot, lv_has ls 4 [(0, .ref (h0 0)), (1, .int v1_2), (2, .int v2_2), (3, .int v3_2)] → fX9_readNumber_L4 N K54 n v1_2 v2_2 v3_2 s0_2 = some q → W p l e rm s m ([.ref (h0 0), .int a1] : List Value).toArray below meth c H locs 0 0 (MQ below (xQ D cA A (ScrW cA ad h0 q.2) (some (.int q.1))) ([.ref (h0 0), .int a1] : List Value).toArray s 0 0 A) (F0 m 4 ls []) := by
    clear h hP hD hS hl
    intro n
    induction n with
    | zero => intro v1_2 v2_2 v3_2 s0_2 H locs hP hD hS ls hl h; rw [fX9_readNumber_L4] at h; cases h
    | succ n ih =>
      intro v1_2 v2_2 v3_2 s0_2 H locs hP hD hS ls hl h
      rw [fX9_readNumber_L4] at h
      refine lv_iload_n hx hb dX9_readNumber_4 rfl (lv_at hl 3 rfl) ?_
      refine lv_iload_n hx hb dX9_readNumber_5 rfl (lv_at hl 1 rfl) ?_
      refine lv_icmp_ge (tgt := 54) hx hb dX9_readNumber_6 (by decide) (fun c3 => ?_) (fun c3 => ?_)
      · have h := x_t h c3
        exact hJ_K54 v2_2 s0_2 _ _ hP hD hS _ (lv_sub hl [2] rfl) h
      · have h := x_f h c3
        refine lv_aload_n hx hb dX9_readNumber_9 rfl (lv_at hl 0 rfl) ?_
        obtain ⟨q4, c4, h⟩ := x_call h
        refine xCall (w2 := ScrW cA ad h0 s0_2) (zRunV (n := 0) (As := []) (rest := []) ⟨hx, hb, hml, hown, hts⟩ (kX9_isDigitNext l D cA ad h0 _ N s0_2 q4 c4) qco_X9_isDigitNext qml_X9_90 qin_X9_isDigitNext qse_X9_isDigitNext qini_X9 (by decide +kernel) (by rw [← erm]; rfl) hN hE hS hA hK hP hD [0, 1, 2, 3] rfl rfl (q0 := 0) rfl rfl rfl rfl rfl hl.1 rfl (lv_room (Nat.le_of_ble_eq_true rfl)) dX9_readNumber_10 ⟨Nat.zero_le _, Nat.zero_le _⟩) hP hD hS hA [0, 1, 2, 3] [] [0, 1, 2, 3] rfl (wr := []) rfl rfl rfl rfl rfl (fun H locs hP hD hS => ?_)
        refine lv_if_eq (tgt := 54) hx hb dX9_readNumber_13 (by decide) (fun c5 => ?_) (fun c5 => ?_)
        · have h := x_t h c5
          exact hJ_K54 v2_2 s0_2 _ _ hP hD hS _ (lv_sub hl [2] rfl) h
        · have h := x_f h c5
          refine lv_iload_n hx hb dX9_readNumber_16 rfl (lv_at hl 2 rfl) ?_
          refine lv_iconst (v := 0) hx hb dX9_readNumber_17 (by decide) ?_
          obtain ⟨q6, c6, h⟩ := x_call h
          refine xCall (w2 := ScrW cA ad h0 s0_2) (xRunS (n := 2) (As := [.int v2_2, .int 0]) (rest := []) ⟨hx, hb, hml, hown, hts⟩ (kJ9_max_7cf53 l D cA  _ N v2_2 0 q6 c6) qco_J9_max_7cf53 qml_X9_70 qst_J9_max_7cf53 qini_J9 (by decide +kernel) (by rw [← erm]; rfl) hK hP hD [] rfl rfl rfl rfl hl.1 rfl (lv_room (Nat.le_of_ble_eq_true rfl)) dX9_readNumber_18 ⟨Nat.zero_le _, Nat.zero_le _⟩) hP hD hS hA [] [0, 1, 2, 3] [0, 1, 2, 3] rfl (wr := [(h0 0, .inr (9, [.ref (h0 1), .int (s0_2.2.1), .ref (h0 2), .ref (h0 3), .int (s0_2.2.2.2.2.1), .int (s0_2.2.2.2.2.2)])), (h0 1, .inl (cA 1, 60, .inl (s0_2.1))), (h0 2, .inl (cA 5, 12, .inr (.inr (.inr (.inr (fun k => (s0_2.2.2.1 k).map ad)))))), (h0 3, .inl (cA 0, 36, .inl (s0_2.2.2.2.1)))]) rfl rfl rfl rfl rfl (fun H locs hP hD hS => ?_)
          refine lv_bipush (v := 10) hx hb dX9_readNumber_21 (by decide) ?_
          refine lv_imul hx hb dX9_readNumber_23 ?_
          refine lv_aload_n hx hb dX9_readNumber_24 rfl (lv_at hl 0 rfl) ?_
          refine va_get (D := D) (ci := 9) (v := .ref (h0 1)) (C := RX9) (T := TX9) (N := 6) hx hb hts iX9 hown hK hP 0 rfl rfl 0 (by decide) (hts _ qfl_X9_9) (fun _ h9 => h9) rfl dX9_readNumber_25 ?_
          refine lv_aload_n hx hb dX9_readNumber_28 rfl (lv_at hl 0 rfl) ?_
          refine va_get (D := D) (ci := 9) (v := .int s0_2.2.2.2.2.2) (C := RX9) (T := TX9) (N := 6) hx hb hts iX9 hown hK hP 0 rfl rfl 5 (by decide) (hts _ qfl_X9_29) (fun _ h9 => h9) rfl dX9_readNumber_29 ?_
          obtain ⟨k7, hk7, h⟩ := x_rd h
          refine xCald hx hb hK hP 1 1 rfl rfl hk7 dX9_readNumber_32 ?_
          refine lv_iadd hx hb dX9_readNumber_33 ?_
          refine lv_bipush (v := 48) hx hb dX9_readNumber_34 (by decide) ?_
          refine lv_isub hx hb dX9_readNumber_36 ?_
          refine lv_topi (fun x8 ex8 => ?_)
          have h := x_let h ex8
          refine lv_istore_n (lv' := [(2, .int x8), (0, .ref (h0 0)), (1, .int v1_2), (3, .int v3_2)]) hx hb dX9_readNumber_37 rfl hl (by decide) rfl (fun ls hl => ?_)
          refine lv_aload_n hx hb dX9_readNumber_38 rfl (lv_at hl 1 rfl) ?_
          refine lv_dup hx hb dX9_readNumber_39 rfl ?_
          refine va_get (D := D) (ci := 9) (v := .int s0_2.2.2.2.2.2) (C := RX9) (T := TX9) (N := 6) hx hb hts iX9 hown hK hP 0 rfl rfl 5 (by decide) (hts _ qfl_X9_29) (fun _ h9 => h9) rfl dX9_readNumber_40 ?_
          refine lv_iconst (v := 1) hx hb dX9_readNumber_43 (by decide) ?_
          refine lv_iadd hx hb dX9_readNumber_44 ?_
          refine lv_topi (fun x9 ex9 => ?_)
          have h := x_let h ex9
          refine va_put (D := D) (ci := 9) (v := .int x9) (ty := .int) (C := RX9) (T := TX9) (N := 6) hx hb hts iX9 tyX9 tyX9_ok nmX9 hown hK hP hD hS 0 rfl rfl 5 (by decide) (hts _ qfl_X9_29) (fun _ h9 => h9) rfl (by decide +kernel) rfl rfl (Nat.le_of_ble_eq_true rfl) dX9_readNumber_45 (fun H locs hP hD hS => ?_)
          have hP : va_P D vwCl (ScrW cA ad h0 ((Scrs5 s0_2 x9))) H := hP
          have hD : va_D A (ScrW cA ad h0 ((Scrs5 s0_2 x9))) := hD
          obtain ⟨x10, ex10⟩ : ∃ y : Int32, y = v3_2 + (1) := ⟨_, rfl⟩
          have h := x_let h ex10
          refine lv_iinc (v := x10) (lv' := [(3, .int x10), (2, .int x8), (0, .ref (h0 0)), (1, .int v1_2)]) hx hb dX9_readNumber_48 hl (k := 3) rfl (by rw [ex10]; rfl) (by decide) rfl (fun ls hl => ?_)
          refine lv_goto (tgt := 4) hx hb dX9_readNumber_51 (by decide) ?_
          exact ih v1_2 x8 x10 ((Scrs5 s0_2 x9)) _ _ hP hD hS _ (lv_sub hl [2, 3, 1, 0] rfl) h
  exact hL4 N a1 (-1) 0 s0 _ _ hP hD hS _ (lv_sub hl [2, 3, 1, 0] rfl) h
def fX9_readParts_L2 (N : Nat) (K111 : ScrS → Option (Int32 × ScrS)) : Nat → Nat → Int32 → ScrS → Option (Int32 × ScrS)
  | 0, _, _, _ => none
  | n + 1, v1_2, v2_2, s0_2 =>
    xcall (fJ0_length_8abf5 N v1_2) fun q3 =>
    if q3 ≤ v2_2 then
      K111 s0_2
    else
      if 3 ≤ v2_2 then
        K111 s0_2
      else
        xcall (fJ0_charAt_5068e N v1_2 v2_2) fun q6 =>
        xcall (fX9_isNext N 32 s0_2) fun q7 =>
        if q7 = 0 then
          xjoin (fun (t0_20 : Int32) (s0_20 : ScrS) =>
              xnz (xnar .boolean t0_20) <|
              some (t0_20, s0_20)
            ) fun J41 =>
          if q6 = 68 then
            J41 1 s0_2
          else
            J41 0 s0_2
        else
          xlet (s0_2.2.2.2.2.2 + 1) fun x9 =>
          xjoin (fun (t0_10 : Int32) (v1_10 : Nat) (v2_10 : Int32) (s0_10 : ScrS) =>
              if t0_10 = (-1) then
                some (0, s0_10)
              else
                xrd 36 ((s0_10.2.2.2.2.1 * 3) + v2_10) fun k12 =>
                xlet (upd s0_10.2.2.2.1 k12 t0_10) fun g13 =>
                xlet (v2_10 + (1)) fun x14 =>
                fX9_readParts_L2 N K111 n v1_10 x14 ((Scrs3 s0_10 g13))
            ) fun J80 =>
          if q6 = 107 then
            xcall (fX9_readKind N ((Scrs5 s0_2 x9))) fun q19 =>
            J80 q19.1 v1_2 v2_2 q19.2
          else
            xjoin (fun (t0_16 : Int32) (v1_16 : Nat) (v2_16 : Int32) (s0_16 : ScrS) =>
                xcall (fX9_readNumber N t0_16 s0_16) fun q17 =>
                J80 q17.1 v1_16 v2_16 q17.2
              ) fun J77 =>
            if q6 = 116 then
              J77 3 v1_2 v2_2 ((Scrs5 s0_2 x9))
            else
              J77 2 v1_2 v2_2 ((Scrs5 s0_2 x9))
def fX9_readParts (N : Nat) (a1 : Nat) (s0 : ScrS) : Option (Int32 × ScrS) :=
  xjoin (fun (s0_1 : ScrS) =>
      some (1, s0_1)
    ) fun K111 =>
  fX9_readParts_L2 N K111 N a1 0 s0
set_option maxRecDepth 100000 in
set_option maxHeartbeats 4000000 in
theorem kX9_readParts (l : Launch) (D : va_G) (cA : Nat → ClassId) (ad : Nat → Nat) (h0 : Nat → Nat) (sz N : Nat) (a1 : Nat) (s0 : ScrS) (q : Int32 × ScrS) (h : fX9_readParts N a1 s0 = some q) : zM l yX9_readParts cX9_readParts 5 (some .boolean) ({ frames := 4, cells := 0, slots := 0, locals := 85 }) D cA ad (ScrW cA ad h0 s0) sz [.ref (h0 0), .ref (ad a1)] (some (.int q.1)) (ScrW cA ad h0 q.2) := by
  generalize erm : ({ frames := 4, cells := 0, slots := 0, locals := 85 } : Room) = rm
  refine zMet (by decide) (Nat.le_of_ble_eq_true rfl) ?_
  intro p e s m below meth c hx hb hr hlocks hml hts hown hin hK hP A eA hD hS hA hsz hN hE ls hl
  have hl : lv_has ls 5 [(0, .ref (h0 0)), (1, .ref (ad a1))] := hl
  clear eA
  rw [fX9_readParts] at h
  refine lv_iconst (v := 0) hx hb dX9_readParts_0 (by decide) ?_
  refine lv_istore_n (lv' := [(2, .int 0), (0, .ref (h0 0)), (1, .ref (ad a1))]) hx hb dX9_readParts_1 rfl hl (by decide) rfl (fun ls hl => ?_)
  obtain ⟨K111, eK111, h⟩ := x_join h
  have hJ_K111 : ∀ (s0_1 : ScrS) (H : Heap) (locs : List Loc), va_P D vwCl (ScrW cA ad h0 s0_1) H → va_D A (ScrW cA ad h0 s0_1) → va_S A s.heap H locs → ∀ ls : Array Slot, lv_has ls 5 [] → K111 s0_1 = some q → W p l e rm s m ([.ref (h0 0), .ref (ad a1)] : List Value).toArray below meth c H locs 0 0 (MQ below (xQ D cA A (ScrW cA ad h0 q.2) (some (.int q.1))) ([.ref (h0 0), .ref (ad a1)] : List Value).toArray s 0 0 A) (F0 m 111 ls []) := by
    clear h hP hD hS hl
    intro s0_1 H locs hP hD hS ls hl h
    rw [eK111] at h
    refine lv_iconst (v := 1) hx hb dX9_readParts_111 (by decide) ?_
    have h := Option.some.inj h
    subst h
    exact xZret (v := 1) hx hb hr hlocks (by decide) hP hK hD hS dX9_readParts_112
  have hL2 : ∀ (n : Nat) (v1_2 : Nat) (v2_2 : Int32) (s0_2 : ScrS) (H : Heap) (locs : List Loc), va_P D vwCl (ScrW cA ad h0 s0_2) H → va_D A (ScrW cA ad h0 s0_2) → va_S A s.heap H locs → ∀ ls : Array Slot, lv_has ls 5 [(0, .ref (h0 0)), (1, .ref (ad v1_2)), (2, .int v2_2)] → fX9_readParts_L2 N K111 n v1_2 v2_2 s0_2 = some q → W p l e rm s m ([.ref (h0 0), .ref (ad a1)] : List Value).toArray below meth c H locs 0 0 (MQ below (xQ D cA A (ScrW cA ad h0 q.2) (some (.int q.1))) ([.ref (h0 0), .ref (ad a1)] : List Value).toArray s 0 0 A) (F0 m 2 ls []) := by
    clear h hP hD hS hl
    intro n
    induction n with
    | zero => intro v1_2 v2_2 s0_2 H locs hP hD hS ls hl h; rw [fX9_readParts_L2] at h; cases h
    | succ n ih =>
      intro v1_2 v2_2 s0_2 H locs hP hD hS ls hl h
      rw [fX9_readParts_L2] at h
      refine lv_iload_n hx hb dX9_readParts_2 rfl (lv_at hl 2 rfl) ?_
      refine lv_aload_n hx hb dX9_readParts_3 rfl (lv_at hl 1 rfl) ?_
      obtain ⟨q3, c3, h⟩ := x_call h
      refine xCall (w2 := ScrW cA ad h0 s0_2) (zRunVr (n := 0) (As := []) (rest := [.int v2_2]) ⟨hx, hb, hml, hown, hts⟩ (kJ0_length_8abf5 l D cA ad  _ N v1_2 q3 c3) qco_J0_length_8abf5 qml_X9_65 qin_J0_length_8abf5 qse_J0_length_8abf5 qini_J0 (by decide +kernel) (by rw [← erm]; rfl) hN hE hS hA hK hP hD [] rfl rfl (rJ0_length_8abf5 hE hS c3) rfl rfl hl.1 rfl (lv_room (Nat.le_of_ble_eq_true rfl)) dX9_readParts_4 ⟨Nat.zero_le _, Nat.zero_le _⟩) hP hD hS hA [] [0, 1, 2, 3] [0, 1, 2, 3] rfl (wr := [(h0 0, .inr (9, [.ref (h0 1), .int (s0_2.2.1), .ref (h0 2), .ref (h0 3), .int (s0_2.2.2.2.2.1), .int (s0_2.2.2.2.2.2)])), (h0 1, .inl (cA 1, 60, .inl (s0_2.1))), (h0 2, .inl (cA 5, 12, .inr (.inr (.inr (.inr (fun k => (s0_2.2.2.1 k).map ad)))))), (h0 3, .inl (cA 0, 36, .inl (s0_2.2.2.2.1)))]) rfl rfl rfl rfl rfl (fun H locs hP hD hS => ?_)
      refine lv_icmp_ge (tgt := 111) hx hb dX9_readParts_7 (by decide) (fun c4 => ?_) (fun c4 => ?_)
      · have h := x_t h c4
        exact hJ_K111 s0_2 _ _ hP hD hS _ (lv_sub hl [] rfl) h
      · have h := x_f h c4
        refine lv_iload_n hx hb dX9_readParts_10 rfl (lv_at hl 2 rfl) ?_
        refine lv_iconst (v := 3) hx hb dX9_readParts_11 (by decide) ?_
        refine lv_icmp_ge (tgt := 111) hx hb dX9_readParts_12 (by decide) (fun c5 => ?_) (fun c5 => ?_)
        · have h := x_t h c5
          exact hJ_K111 s0_2 _ _ hP hD hS _ (lv_sub hl [] rfl) h
        · have h := x_f h c5
          refine lv_aload_n hx hb dX9_readParts_15 rfl (lv_at hl 1 rfl) ?_
          refine lv_iload_n hx hb dX9_readParts_16 rfl (lv_at hl 2 rfl) ?_
          obtain ⟨q6, c6, h⟩ := x_call h
          refine xCall (w2 := ScrW cA ad h0 s0_2) (zRunVr (n := 1) (As := [.int v2_2]) (rest := []) ⟨hx, hb, hml, hown, hts⟩ (kJ0_charAt_5068e l D cA ad  _ N v1_2 v2_2 q6 c6) qco_J0_charAt_5068e qml_X9_76 qin_J0_charAt_5068e qse_J0_charAt_5068e qini_J0 (by decide +kernel) (by rw [← erm]; rfl) hN hE hS hA hK hP hD [] rfl rfl (rJ0_charAt_5068e hE hS c6) rfl rfl hl.1 rfl (lv_room (Nat.le_of_ble_eq_true rfl)) dX9_readParts_17 ⟨Nat.zero_le _, Nat.zero_le _⟩) hP hD hS hA [] [0, 1, 2, 3] [0, 1, 2, 3] rfl (wr := [(h0 0, .inr (9, [.ref (h0 1), .int (s0_2.2.1), .ref (h0 2), .ref (h0 3), .int (s0_2.2.2.2.2.1), .int (s0_2.2.2.2.2.2)])), (h0 1, .inl (cA 1, 60, .inl (s0_2.1))), (h0 2, .inl (cA 5, 12, .inr (.inr (.inr (.inr (fun k => (s0_2.2.2.1 k).map ad)))))), (h0 3, .inl (cA 0, 36, .inl (s0_2.2.2.2.1)))]) rfl rfl rfl rfl rfl (fun H locs hP hD hS => ?_)
          refine lv_istore_n (lv' := [(3, .int q6), (0, .ref (h0 0)), (1, .ref (ad v1_2)), (2, .int v2_2)]) hx hb dX9_readParts_20 rfl hl (by decide) rfl (fun ls hl => ?_)
          refine lv_aload_n hx hb dX9_readParts_21 rfl (lv_at hl 1 rfl) ?_
          refine lv_bipush (v := 32) hx hb dX9_readParts_22 (by decide) ?_
          obtain ⟨q7, c7, h⟩ := x_call h
          refine xCall (w2 := ScrW cA ad h0 s0_2) (zRunV (n := 1) (As := [.int 32]) (rest := []) ⟨hx, hb, hml, hown, hts⟩ (kX9_isNext l D cA ad h0 _ N 32 s0_2 q7 c7) qco_X9_isNext qml_X9_39 qin_X9_isNext qse_X9_isNext qini_X9 (by decide +kernel) (by rw [← erm]; rfl) hN hE hS hA hK hP hD [0, 1, 2, 3] rfl rfl (q0 := 0) rfl rfl rfl rfl rfl hl.1 rfl (lv_room (Nat.le_of_ble_eq_true rfl)) dX9_readParts_24 ⟨Nat.zero_le _, Nat.zero_le _⟩) hP hD hS hA [0, 1, 2, 3] [] [0, 1, 2, 3] rfl (wr := []) rfl rfl rfl rfl rfl (fun H locs hP hD hS => ?_)
          refine lv_if_ne (tgt := 42) hx hb dX9_readParts_27 (by decide) (fun c8 => ?_) (fun c8 => ?_)
          · have h := x_f h c8
            refine lv_aload_n hx hb dX9_readParts_42 rfl (lv_at hl 1 rfl) ?_
            refine lv_dup hx hb dX9_readParts_43 rfl ?_
            refine va_get (D := D) (ci := 9) (v := .int s0_2.2.2.2.2.2) (C := RX9) (T := TX9) (N := 6) hx hb hts iX9 hown hK hP 0 rfl rfl 5 (by decide) (hts _ qfl_X9_29) (fun _ h9 => h9) rfl dX9_readParts_44 ?_
            refine lv_iconst (v := 1) hx hb dX9_readParts_47 (by decide) ?_
            refine lv_iadd hx hb dX9_readParts_48 ?_
            refine lv_topi (fun x9 ex9 => ?_)
            have h := x_let h ex9
            refine va_put (D := D) (ci := 9) (v := .int x9) (ty := .int) (C := RX9) (T := TX9) (N := 6) hx hb hts iX9 tyX9 tyX9_ok nmX9 hown hK hP hD hS 0 rfl rfl 5 (by decide) (hts _ qfl_X9_29) (fun _ h9 => h9) rfl (by decide +kernel) rfl rfl (Nat.le_of_ble_eq_true rfl) dX9_readParts_49 (fun H locs hP hD hS => ?_)
            have hP : va_P D vwCl (ScrW cA ad h0 ((Scrs5 s0_2 x9))) H := hP
            have hD : va_D A (ScrW cA ad h0 ((Scrs5 s0_2 x9))) := hD
            refine lv_iload_n hx hb dX9_readParts_52 rfl (lv_at hl 0 rfl) ?_
            refine lv_bipush (v := 107) hx hb dX9_readParts_53 (by decide) ?_
            obtain ⟨J80, eJ80, h⟩ := x_join h
            have hJ_J80 : ∀ (t0_10 : Int32) (v1_10 : Nat) (v2_10 : Int32) (s0_10 : ScrS) (H : Heap) (locs : List Loc), va_P D vwCl (ScrW cA ad h0 s0_10) H → va_D A (ScrW cA ad h0 s0_10) → va_S A s.heap H locs → ∀ ls : Array Slot, lv_has ls 5 [(0, .ref (h0 0)), (1, .ref (ad v1_10)), (2, .int v2_10)] → J80 t0_10 v1_10 v2_10 s0_10 = some q → W p l e rm s m ([.ref (h0 0), .ref (ad a1)] : List Value).toArray below meth c H locs 0 0 (MQ below (xQ D cA A (ScrW cA ad h0 q.2) (some (.int q.1))) ([.ref (h0 0), .ref (ad a1)] : List Value).toArray s 0 0 A) (F0 m 80 ls [.int t0_10]) := by
              clear h hP hD hS hl
              intro t0_10 v1_10 v2_10 s0_10 H locs hP hD hS ls hl h
              rw [eJ80] at h
              refine lv_istore (lv' := [(4, .int t0_10), (0, .ref (h0 0)), (1, .ref (ad v1_10)), (2, .int v2_10)]) hx hb dX9_readParts_80 hl (by decide) rfl (fun ls hl => ?_)
              refine lv_iload hx hb dX9_readParts_82 (lv_at hl 0 rfl) ?_
              refine lv_iconst (v := (-1)) hx hb dX9_readParts_84 (by decide) ?_
              refine lv_icmp_ne (tgt := 90) hx hb dX9_readParts_85 (by decide) (fun c11 => ?_) (fun c11 => ?_)
              · have h := x_f h c11
                refine lv_aload_n hx hb dX9_readParts_90 rfl (lv_at hl 1 rfl) ?_
                refine va_get (D := D) (ci := 9) (v := .ref (h0 3)) (C := RX9) (T := TX9) (N := 6) hx hb hts iX9 hown hK hP 0 rfl rfl 3 (by decide) (hts _ qfl_X9_21) (fun _ h9 => h9) rfl dX9_readParts_91 ?_
                refine lv_aload_n hx hb dX9_readParts_94 rfl (lv_at hl 1 rfl) ?_
                refine va_get (D := D) (ci := 9) (v := .int s0_10.2.2.2.2.1) (C := RX9) (T := TX9) (N := 6) hx hb hts iX9 hown hK hP 0 rfl rfl 4 (by decide) (hts _ qfl_X9_32) (fun _ h9 => h9) rfl dX9_readParts_95 ?_
                refine lv_iconst (v := 3) hx hb dX9_readParts_98 (by decide) ?_
                refine lv_imul hx hb dX9_readParts_99 ?_
                refine lv_iload_n hx hb dX9_readParts_100 rfl (lv_at hl 3 rfl) ?_
                refine lv_iadd hx hb dX9_readParts_101 ?_
                refine lv_iload hx hb dX9_readParts_102 (lv_at hl 0 rfl) ?_
                obtain ⟨k12, hk12, h⟩ := x_rd h
                refine xIast (w2 := fun zz => ScrW cA ad h0 ((Scrs3 s0_10 zz))) hx hb hK hP hD hS 3 0 rfl rfl hk12 (fun _ => rfl) dX9_readParts_104 (fun g13 eg13 H locs hP hD hS => ?_)
                have h := x_let h eg13
                have hP : va_P D vwCl (ScrW cA ad h0 ((Scrs3 s0_10 g13))) H := hP
                have hD : va_D A (ScrW cA ad h0 ((Scrs3 s0_10 g13))) := hD
                obtain ⟨x14, ex14⟩ : ∃ y : Int32, y = v2_10 + (1) := ⟨_, rfl⟩
                have h := x_let h ex14
                refine lv_iinc (v := x14) (lv' := [(2, .int x14), (4, .int t0_10), (0, .ref (h0 0)), (1, .ref (ad v1_10))]) hx hb dX9_readParts_105 hl (k := 3) rfl (by rw [ex14]; rfl) (by decide) rfl (fun ls hl => ?_)
                refine lv_goto (tgt := 2) hx hb dX9_readParts_108 (by decide) ?_
                exact ih v1_10 x14 ((Scrs3 s0_10 g13)) _ _ hP hD hS _ (lv_sub hl [2, 3, 0] rfl) h
              · have h := x_t h c11
                refine lv_iconst (v := 0) hx hb dX9_readParts_88 (by decide) ?_
                have h := Option.some.inj h
                subst h
                exact xZret (v := 0) hx hb hr hlocks (by decide) hP hK hD hS dX9_readParts_89
            refine lv_icmp_ne (tgt := 65) hx hb dX9_readParts_55 (by decide) (fun c15 => ?_) (fun c15 => ?_)
            · have h := x_f h c15
              refine lv_aload_n hx hb dX9_readParts_65 rfl (lv_at hl 1 rfl) ?_
              refine lv_iload_n hx hb dX9_readParts_66 rfl (lv_at hl 0 rfl) ?_
              refine lv_bipush (v := 116) hx hb dX9_readParts_67 (by decide) ?_
              obtain ⟨J77, eJ77, h⟩ := x_join h
              have hJ_J77 : ∀ (t0_16 : Int32) (v1_16 : Nat) (v2_16 : Int32) (s0_16 : ScrS) (H : Heap) (locs : List Loc), va_P D vwCl (ScrW cA ad h0 s0_16) H → va_D A (ScrW cA ad h0 s0_16) → va_S A s.heap H locs → ∀ ls : Array Slot, lv_has ls 5 [(0, .ref (h0 0)), (1, .ref (ad v1_16)), (2, .int v2_16)] → J77 t0_16 v1_16 v2_16 s0_16 = some q → W p l e rm s m ([.ref (h0 0), .ref (ad a1)] : List Value).toArray below meth c H locs 0 0 (MQ below (xQ D cA A (ScrW cA ad h0 q.2) (some (.int q.1))) ([.ref (h0 0), .ref (ad a1)] : List Value).toArray s 0 0 A) (F0 m 77 ls [.int t0_16, .ref (h0 0)]) := by
                clear h hP hD hS hl
                intro t0_16 v1_16 v2_16 s0_16 H locs hP hD hS ls hl h
                rw [eJ77] at h
                obtain ⟨q17, c17, h⟩ := x_call h
                refine xCall (w2 := ScrW cA ad h0 q17.2) (zRunV (n := 1) (As := [.int t0_16]) (rest := []) ⟨hx, hb, hml, hown, hts⟩ (kX9_readNumber l D cA ad h0 _ N t0_16 s0_16 q17 c17) qco_X9_readNumber qml_X9_83 qin_X9_readNumber qse_X9_readNumber qini_X9 (by decide +kernel) (by rw [← erm]; rfl) hN hE hS hA hK hP hD [0, 1, 2, 3] rfl rfl (q0 := 0) rfl rfl rfl rfl rfl hl.1 rfl (lv_room (Nat.le_of_ble_eq_true rfl)) dX9_readParts_77 ⟨Nat.zero_le _, Nat.zero_le _⟩) hP hD hS hA [0, 1, 2, 3] [] [0, 1, 2, 3] rfl (wr := []) rfl rfl rfl rfl rfl (fun H locs hP hD hS => ?_)
                exact hJ_J80 q17.1 v1_16 v2_16 q17.2 _ _ hP hD hS _ (lv_sub hl [0, 1, 2] rfl) h
              refine lv_icmp_ne (tgt := 76) hx hb dX9_readParts_69 (by decide) (fun c18 => ?_) (fun c18 => ?_)
              · have h := x_f h c18
                refine lv_iconst (v := 2) hx hb dX9_readParts_76 (by decide) ?_
                exact hJ_J77 2 v1_2 v2_2 ((Scrs5 s0_2 x9)) _ _ hP hD hS _ (lv_sub hl [1, 2, 3] rfl) h
              · have h := x_t h c18
                refine lv_iconst (v := 3) hx hb dX9_readParts_72 (by decide) ?_
                refine lv_goto (tgt := 77) hx hb dX9_readParts_73 (by decide) ?_
                exact hJ_J77 3 v1_2 v2_2 ((Scrs5 s0_2 x9)) _ _ hP hD hS _ (lv_sub hl [1, 2, 3] rfl) h
            · have h := x_t h c15
              refine lv_aload_n hx hb dX9_readParts_58 rfl (lv_at hl 1 rfl) ?_
              obtain ⟨q19, c19, h⟩ := x_call h
              refine xCall (w2 := ScrW cA ad h0 q19.2) (zRunV (n := 0) (As := []) (rest := []) ⟨hx, hb, hml, hown, hts⟩ (kX9_readKind l D cA ad h0 _ N ((Scrs5 s0_2 x9)) q19 c19) qco_X9_readKind qml_X9_80 qin_X9_readKind qse_X9_readKind qini_X9 (by decide +kernel) (by rw [← erm]; rfl) hN hE hS hA hK hP hD [0, 1, 2, 3] rfl rfl (q0 := 0) rfl rfl rfl rfl rfl hl.1 rfl (lv_room (Nat.le_of_ble_eq_true rfl)) dX9_readParts_59 ⟨Nat.zero_le _, Nat.zero_le _⟩) hP hD hS hA [0, 1, 2, 3] [] [0, 1, 2, 3] rfl (wr := []) rfl rfl rfl rfl rfl (fun H locs hP hD hS => ?_)
              refine lv_goto (tgt := 80) hx hb dX9_readParts_62 (by decide) ?_
              exact hJ_J80 q19.1 v1_2 v2_2 q19.2 _ _ hP hD hS _ (lv_sub hl [1, 2, 3] rfl) h
          · have h := x_t h c8
            refine lv_iload_n hx hb dX9_readParts_30 rfl (lv_at hl 0 rfl) ?_
            refine lv_bipush (v := 68) hx hb dX9_readParts_31 (by decide) ?_
            obtain ⟨J41, eJ41, h⟩ := x_join h
            have hJ_J41 : ∀ (t0_20 : Int32) (s0_20 : ScrS) (H : Heap) (locs : List Loc), va_P D vwCl (ScrW cA ad h0 s0_20) H → va_D A (ScrW cA ad h0 s0_20) → va_S A s.heap H locs → ∀ ls : Array Slot, lv_has ls 5 [] → J41 t0_20 s0_20 = some q → W p l e rm s m ([.ref (h0 0), .ref (ad a1)] : List Value).toArray below meth c H locs 0 0 (MQ below (xQ D cA A (ScrW cA ad h0 q.2) (some (.int q.1))) ([.ref (h0 0), .ref (ad a1)] : List Value).toArray s 0 0 A) (F0 m 41 ls [.int t0_20]) := by
              clear h hP hD hS hl
              intro t0_20 s0_20 H locs hP hD hS ls hl h
              rw [eJ41] at h
              obtain ⟨z21, h⟩ := x_nz h
              have h := Option.some.inj h
              subst h
              exact xZret hx hb hr hlocks (xnar_n z21) hP hK hD hS dX9_readParts_41
            refine lv_icmp_ne (tgt := 40) hx hb dX9_readParts_33 (by decide) (fun c22 => ?_) (fun c22 => ?_)
            · have h := x_f h c22
              refine lv_iconst (v := 0) hx hb dX9_readParts_40 (by decide) ?_
              exact hJ_J41 0 s0_2 _ _ hP hD hS _ (lv_sub hl [] rfl) h
            · have h := x_t h c22
              refine lv_iconst (v := 1) hx hb dX9_readParts_36 (by decide) ?_
              refine lv_goto (tgt := 41) hx hb dX9_readParts_37 (by decide) ?_
              exact hJ_J41 1 s0_2 _ _ hP hD hS _ (lv_sub hl [] rfl) h
  exact hL2 N a1 0 s0 _ _ hP hD hS _ (lv_sub hl [1, 2, 0] rfl) h
def fX9_readCommand_L32 (N : Nat) (K57 : Nat → ScrS → Option (Int32 × ScrS)) : Nat → Nat → Int32 → ScrS → Option (Int32 × ScrS)
  | 0, _, _, _ => none
  | n + 1, v1_13, v2_13, s0_13 =>
    if 3 ≤ v2_13 then
      K57 v1_13 s0_13
    else
      xrd 36 ((s0_13.2.2.2.2.1 * 3) + v2_13) fun k15 =>
      xlet (upd s0_13.2.2.2.1 k15 (-1)) fun g16 =>
      xlet (v2_13 + (1)) fun x17 =>
      fX9_readCommand_L32 N K57 n v1_13 x17 ((Scrs3 s0_13 g16))
def fX9_readCommand (N : Nat)  (s0 : ScrS) : Option (Int32 × ScrS) :=
  xcall (fX9_readWord N s0) fun q1 =>
  xjoin (fun (s0_2 : ScrS) =>
      some (0, s0_2)
    ) fun J18 =>
  xopt q1.1 (
    J18 q1.2
  ) fun c3 =>
    if q1.2.2.2.2.2.1 < 12 then
      xvb c3 fun j5 =>
      xrd 12 q1.2.2.2.2.2.1 fun k6 =>
      xlet (xupq q1.2.2.2.1 k6 (some c3)) fun g7 =>
      xjoin (fun (v1_8 : Nat) (s0_8 : ScrS) =>
          xvb v1_8 fun j9 =>
          xcall (fX9_readParts N (40 + xForm.getD j9 0) s0_8) fun q10 =>
          xlet (q10.2.2.2.2.2.1 + 1) fun x11 =>
          xnz (xnar .boolean q10.1) <|
          some (q10.1, (Scrs4 q10.2 x11))
        ) fun K57 =>
      fX9_readCommand_L32 N K57 N c3 0 ((Scrs2 q1.2 g7))
    else
      J18 q1.2
set_option maxRecDepth 100000 in
set_option maxHeartbeats 4000000 in
theorem kX9_readCommand (l : Launch) (D : va_G) (cA : Nat → ClassId) (ad : Nat → Nat) (h0 : Nat → Nat) (sz N : Nat)  (s0 : ScrS) (q : Int32 × ScrS) (h : fX9_readCommand N s0 = some q) : zM l yX9_readCommand cX9_readCommand 3 (some .boolean) ({ frames := 6, cells := 0, slots := 0, locals := 131 }) D cA ad (ScrW cA ad h0 s0) sz [.ref (h0 0)] (some (.int q.1)) (ScrW cA ad h0 q.2) := by
  generalize erm : ({ frames := 6, cells := 0, slots := 0, locals := 131 } : Room) = rm
  refine zMet (by decide) (Nat.le_of_ble_eq_true rfl) ?_
  intro p e s m below meth c hx hb hr hlocks hml hts hown hin hK hP A eA hD hS hA hsz hN hE ls hl
  have hl : lv_has ls 3 [(0, .ref (h0 0))] := hl
  clear eA
  rw [fX9_readCommand] at h
  refine lv_aload_n hx hb dX9_readCommand_0 rfl (lv_at hl 0 rfl) ?_
  obtain ⟨q1, c1, h⟩ := x_call h
  refine xCall (w2 := ScrW cA ad h0 q1.2) (zRunV (n := 0) (As := []) (rest := []) ⟨hx, hb, hml, hown, hts⟩ (kX9_readWord l D cA ad h0 _ N s0 q1 c1) qco_X9_readWord qml_X9_43 qin_X9_readWord qse_X9_readWord qini_X9 (by decide +kernel) (by rw [← erm]; rfl) hN hE hS hA hK hP hD [0, 1, 2, 3] rfl rfl (q0 := 0) rfl rfl rfl rfl rfl hl.1 rfl (lv_room (Nat.le_of_ble_eq_true rfl)) dX9_readCommand_1 ⟨Nat.zero_le _, Nat.zero_le _⟩) hP hD hS hA [0, 1, 2, 3] [] [0, 1, 2, 3] rfl (wr := []) rfl rfl rfl rfl rfl (fun H locs hP hD hS => ?_)
  refine zAstore_n (o := q1.1) (lv' := [(1, va_re ad q1.1), (0, .ref (h0 0))]) hx hb dX9_readCommand_4 rfl hl (by decide) rfl (fun ls hl => ?_)
  refine zAload_n (o := q1.1) hx hb dX9_readCommand_5 rfl (lv_at hl 0 rfl) ?_
  obtain ⟨J18, eJ18, h⟩ := x_join h
  have hJ_J18 : ∀ (s0_2 : ScrS) (H : Heap) (locs : List Loc), va_P D vwCl (ScrW cA ad h0 s0_2) H → va_D A (ScrW cA ad h0 s0_2) → va_S A s.heap H locs → ∀ ls : Array Slot, lv_has ls 3 [] → J18 s0_2 = some q → W p l e rm s m ([.ref (h0 0)] : List Value).toArray below meth c H locs 0 0 (MQ below (xQ D cA A (ScrW cA ad h0 q.2) (some (.int q.1))) ([.ref (h0 0)] : List Value).toArray s 0 0 A) (F0 m 18 ls []) := by
    clear h hP hD hS hl
    intro s0_2 H locs hP hD hS ls hl h
    rw [eJ18] at h
    refine lv_iconst (v := 0) hx hb dX9_readCommand_18 (by decide) ?_
    have h := Option.some.inj h
    subst h
    exact xZret (v := 0) hx hb hr hlocks (by decide) hP hK hD hS dX9_readCommand_19
  refine zIfnull (o := q1.1) (tgt := 18) hx hb dX9_readCommand_6 (by decide) (fun e3 => ?_) (fun c3 e3 => ?_)
  · have h := x_on h e3
    exact hJ_J18 q1.2 _ _ hP hD hS _ (lv_sub hl [] rfl) h
  · have h := x_os h e3
    rw [e3] at hl
    have hl : lv_has ls 3 [(1, .ref (ad c3)), (0, .ref (h0 0))] := hl
    refine lv_aload_n hx hb dX9_readCommand_9 rfl (lv_at hl 1 rfl) ?_
    refine va_get (D := D) (ci := 9) (v := .int q1.2.2.2.2.2.1) (C := RX9) (T := TX9) (N := 6) hx hb hts iX9 hown hK hP 0 rfl rfl 4 (by decide) (hts _ qfl_X9_32) (fun _ h9 => h9) rfl dX9_readCommand_10 ?_
    refine lv_bipush (v := 12) hx hb dX9_readCommand_13 (by decide) ?_
    refine lv_icmp_lt (tgt := 20) hx hb dX9_readCommand_15 (by decide) (fun c4 => ?_) (fun c4 => ?_)
    · have h := x_t h c4
      refine lv_aload_n hx hb dX9_readCommand_20 rfl (lv_at hl 1 rfl) ?_
      refine va_get (D := D) (ci := 9) (v := .ref (h0 2)) (C := RX9) (T := TX9) (N := 6) hx hb hts iX9 hown hK hP 0 rfl rfl 2 (by decide) (hts _ qfl_X9_17) (fun _ h9 => h9) rfl dX9_readCommand_21 ?_
      refine lv_aload_n hx hb dX9_readCommand_24 rfl (lv_at hl 1 rfl) ?_
      refine va_get (D := D) (ci := 9) (v := .int q1.2.2.2.2.2.1) (C := RX9) (T := TX9) (N := 6) hx hb hts iX9 hown hK hP 0 rfl rfl 4 (by decide) (hts _ qfl_X9_32) (fun _ h9 => h9) rfl dX9_readCommand_25 ?_
      refine lv_aload_n hx hb dX9_readCommand_28 rfl (lv_at hl 0 rfl) ?_
      obtain ⟨j5, hj5, h⟩ := x_vb h
      obtain ⟨k6, hk6, h⟩ := x_rd h
      refine zQast (ad := ad) (f := q1.2.2.2.1) (w2 := fun zz => ScrW cA ad h0 ((Scrs2 q1.2 zz))) hx hb hE hK hP hD hS 2 5 rfl rfl hj5 hk6 (fun _ => rfl) dX9_readCommand_29 (fun g7 eg7 H locs hP hD hS => ?_)
      have h := x_let h eg7
      have hP : va_P D vwCl (ScrW cA ad h0 ((Scrs2 q1.2 g7))) H := hP
      have hD : va_D A (ScrW cA ad h0 ((Scrs2 q1.2 g7))) := hD
      refine lv_iconst (v := 0) hx hb dX9_readCommand_30 (by decide) ?_
      refine lv_istore_n (lv' := [(2, .int 0), (1, .ref (ad c3)), (0, .ref (h0 0))]) hx hb dX9_readCommand_31 rfl hl (by decide) rfl (fun ls hl => ?_)
      obtain ⟨K57, eK57, h⟩ := x_join h
      have hJ_K57 : ∀ (v1_8 : Nat) (s0_8 : ScrS) (H : Heap) (locs : List Loc), va_P D vwCl (ScrW cA ad h0 s0_8) H → va_D A (ScrW cA ad h0 s0_8) → va_S A s.heap H locs → ∀ ls : Array Slot, lv_has ls 3 [(0, .ref (h0 0)), (1, .ref (ad v1_8))] → K57 v1_8 s0_8 = some q → W p l e rm s m ([.ref (h0 0)] : List Value).toArray below meth c H locs 0 0 (MQ below (xQ D cA A (ScrW cA ad h0 q.2) (some (.int q.1))) ([.ref (h0 0)] : List Value).toArray s 0 0 A) (F0 m 57 ls []) := by
        clear h hP hD hS hl
        intro v1_8 s0_8 H locs hP hD hS ls hl h
        rw [eK57] at h
        refine lv_aload_n hx hb dX9_readCommand_57 rfl (lv_at hl 0 rfl) ?_
        refine lv_aload_n hx hb dX9_readCommand_58 rfl (lv_at hl 1 rfl) ?_
        obtain ⟨j9, hj9, h⟩ := x_vb h
        refine zVform hx hb hE hS hown hj9 (hts _ qfl_X9_47) dX9_readCommand_59 ?_
        obtain ⟨q10, c10, h⟩ := x_call h
        refine xCall (w2 := ScrW cA ad h0 q10.2) (zRunV (n := 1) (As := [.ref (ad (40 + xForm.getD j9 0))]) (rest := []) ⟨hx, hb, hml, hown, hts⟩ (kX9_readParts l D cA ad h0 _ N (40 + xForm.getD j9 0) s0_8 q10 c10) qco_X9_readParts qml_X9_51 qin_X9_readParts qse_X9_readParts qini_X9 (by decide +kernel) (by rw [← erm]; rfl) hN hE hS hA hK hP hD [0, 1, 2, 3] rfl rfl (q0 := 0) rfl rfl rfl rfl rfl hl.1 rfl (lv_room (Nat.le_of_ble_eq_true rfl)) dX9_readCommand_62 ⟨Nat.zero_le _, Nat.zero_le _⟩) hP hD hS hA [0, 1, 2, 3] [] [0, 1, 2, 3] rfl (wr := []) rfl rfl rfl rfl rfl (fun H locs hP hD hS => ?_)
        refine lv_istore_n (lv' := [(2, .int q10.1), (0, .ref (h0 0)), (1, .ref (ad v1_8))]) hx hb dX9_readCommand_65 rfl hl (by decide) rfl (fun ls hl => ?_)
        refine lv_aload_n hx hb dX9_readCommand_66 rfl (lv_at hl 1 rfl) ?_
        refine lv_dup hx hb dX9_readCommand_67 rfl ?_
        refine va_get (D := D) (ci := 9) (v := .int q10.2.2.2.2.2.1) (C := RX9) (T := TX9) (N := 6) hx hb hts iX9 hown hK hP 0 rfl rfl 4 (by decide) (hts _ qfl_X9_32) (fun _ h9 => h9) rfl dX9_readCommand_68 ?_
        refine lv_iconst (v := 1) hx hb dX9_readCommand_71 (by decide) ?_
        refine lv_iadd hx hb dX9_readCommand_72 ?_
        refine lv_topi (fun x11 ex11 => ?_)
        have h := x_let h ex11
        refine va_put (D := D) (ci := 9) (v := .int x11) (ty := .int) (C := RX9) (T := TX9) (N := 6) hx hb hts iX9 tyX9 tyX9_ok nmX9 hown hK hP hD hS 0 rfl rfl 4 (by decide) (hts _ qfl_X9_32) (fun _ h9 => h9) rfl (by decide +kernel) rfl rfl (Nat.le_of_ble_eq_true rfl) dX9_readCommand_73 (fun H locs hP hD hS => ?_)
        have hP : va_P D vwCl (ScrW cA ad h0 ((Scrs4 q10.2 x11))) H := hP
        have hD : va_D A (ScrW cA ad h0 ((Scrs4 q10.2 x11))) := hD
        refine lv_iload_n hx hb dX9_readCommand_76 rfl (lv_at hl 0 rfl) ?_
        obtain ⟨z12, h⟩ := x_nz h
        have h := Option.some.inj h
        subst h
        exact xZret hx hb hr hlocks (xnar_n z12) hP hK hD hS dX9_readCommand_77
      have hL32 : ∀ (n : Nat) (v1_13 : Nat) (v2_13 : Int32) (s0_13 : ScrS) (H : Heap) (locs : List Loc), va_P D vwCl (ScrW cA ad h0 s0_13) H → va_D A (ScrW cA ad h0 s0_13) → va_S A s.heap H locs → ∀ ls : Array Slot, lv_has ls 3 [(0, .ref (h0 0)), (1, .ref (ad v1_13)), (2, .int v2_13)] → fX9_readCommand_L32 N K57 n v1_13 v2_13 s0_13 = some q → W p l e rm s m ([.ref (h0 0)] : List Value).toArray below meth c H locs 0 0 (MQ below (xQ D cA A (ScrW cA ad h0 q.2) (some (.int q.1))) ([.ref (h0 0)] : List Value).toArray s 0 0 A) (F0 m 32 ls []) := by
        clear h hP hD hS hl
        intro n
        induction n with
        | zero => intro v1_13 v2_13 s0_13 H locs hP hD hS ls hl h; rw [fX9_readCommand_L32] at h; cases h
        | succ n ih =>
          intro v1_13 v2_13 s0_13 H locs hP hD hS ls hl h
          rw [fX9_readCommand_L32] at h
          refine lv_iload_n hx hb dX9_readCommand_32 rfl (lv_at hl 2 rfl) ?_
          refine lv_iconst (v := 3) hx hb dX9_readCommand_33 (by decide) ?_
          refine lv_icmp_ge (tgt := 57) hx hb dX9_readCommand_34 (by decide) (fun c14 => ?_) (fun c14 => ?_)
          · have h := x_t h c14
            exact hJ_K57 v1_13 s0_13 _ _ hP hD hS _ (lv_sub hl [0, 1] rfl) h
          · have h := x_f h c14
            refine lv_aload_n hx hb dX9_readCommand_37 rfl (lv_at hl 0 rfl) ?_
            refine va_get (D := D) (ci := 9) (v := .ref (h0 3)) (C := RX9) (T := TX9) (N := 6) hx hb hts iX9 hown hK hP 0 rfl rfl 3 (by decide) (hts _ qfl_X9_21) (fun _ h9 => h9) rfl dX9_readCommand_38 ?_
            refine lv_aload_n hx hb dX9_readCommand_41 rfl (lv_at hl 0 rfl) ?_
            refine va_get (D := D) (ci := 9) (v := .int s0_13.2.2.2.2.1) (C := RX9) (T := TX9) (N := 6) hx hb hts iX9 hown hK hP 0 rfl rfl 4 (by decide) (hts _ qfl_X9_32) (fun _ h9 => h9) rfl dX9_readCommand_42 ?_
            refine lv_iconst (v := 3) hx hb dX9_readCommand_45 (by decide) ?_
            refine lv_imul hx hb dX9_readCommand_46 ?_
            refine lv_iload_n hx hb dX9_readCommand_47 rfl (lv_at hl 2 rfl) ?_
            refine lv_iadd hx hb dX9_readCommand_48 ?_
            refine lv_iconst (v := (-1)) hx hb dX9_readCommand_49 (by decide) ?_
            obtain ⟨k15, hk15, h⟩ := x_rd h
            refine xIast (w2 := fun zz => ScrW cA ad h0 ((Scrs3 s0_13 zz))) hx hb hK hP hD hS 3 0 rfl rfl hk15 (fun _ => rfl) dX9_readCommand_50 (fun g16 eg16 H locs hP hD hS => ?_)
            have h := x_let h eg16
            have hP : va_P D vwCl (ScrW cA ad h0 ((Scrs3 s0_13 g16))) H := hP
            have hD : va_D A (ScrW cA ad h0 ((Scrs3 s0_13 g16))) := hD
            obtain ⟨x17, ex17⟩ : ∃ y : Int32, y = v2_13 + (1) := ⟨_, rfl⟩
            have h := x_let h ex17
            refine lv_iinc (v := x17) (lv' := [(2, .int x17), (0, .ref (h0 0)), (1, .ref (ad v1_13))]) hx hb dX9_readCommand_51 hl (k := 2) rfl (by rw [ex17]; rfl) (by decide) rfl (fun ls hl => ?_)
            refine lv_goto (tgt := 32) hx hb dX9_readCommand_54 (by decide) ?_
            exact ih v1_13 x17 ((Scrs3 s0_13 g16)) _ _ hP hD hS _ (lv_sub hl [1, 2, 0] rfl) h
      exact hL32 N c3 0 ((Scrs2 q1.2 g7)) _ _ hP hD hS _ (lv_sub hl [2, 1, 0] rfl) h
    · have h := x_f h c4
      exact hJ_J18 q1.2 _ _ hP hD hS _ (lv_sub hl [] rfl) h
def fX9_read_L17 (N : Nat) (K57 : Int32 → ScrS → Option (Int32 × ScrS)) : Nat → Int32 → Int32 → ScrS → Option (Int32 × ScrS)
  | 0, _, _, _ => none
  | n + 1, v1_8, v2_8, s0_8 =>
    if 12 < v2_8 then
      K57 v1_8 s0_8
    else
      if v1_8 = 0 then
        K57 v1_8 s0_8
      else
        xcall (fX9_isNext N 59 s0_8) fun q11 =>
        if q11 = 0 then
          K57 v1_8 s0_8
        else
          xlet (s0_8.2.2.2.2.2 + 1) fun x13 =>
          xcall (fX9_readCommand N ((Scrs5 s0_8 x13))) fun q14 =>
          xlet (v2_8 + (1)) fun x15 =>
          fX9_read_L17 N K57 n q14.1 x15 q14.2
def fX9_read (N : Nat)  (s0 : ScrS) : Option (Int32 × ScrS) :=
  xcall (fX9_readCommand N ((Scrs5 (Scrs4 s0 0) 0))) fun q1 =>
  xjoin (fun (v1_2 : Int32) (s0_2 : ScrS) =>
      xjoin (fun (t0_3 : Int32) (s0_3 : ScrS) =>
          xnz (xnar .boolean t0_3) <|
          some (t0_3, s0_3)
        ) fun J77 =>
      xjoin (fun (s0_5 : ScrS) =>
          J77 0 s0_5
        ) fun J76 =>
      if v1_2 = 0 then
        J76 s0_2
      else
        if s0_2.2.2.2.2.2 = s0_2.2.1 then
          J77 1 s0_2
        else
          J76 s0_2
    ) fun K57 =>
  fX9_read_L17 N K57 N q1.1 1 q1.2
set_option maxRecDepth 100000 in
set_option maxHeartbeats 4000000 in
theorem kX9_read (l : Launch) (D : va_G) (cA : Nat → ClassId) (ad : Nat → Nat) (h0 : Nat → Nat) (sz N : Nat)  (s0 : ScrS) (q : Int32 × ScrS) (h : fX9_read N s0 = some q) : zM l yX9_read cX9_read 3 (some .boolean) ({ frames := 7, cells := 0, slots := 0, locals := 153 }) D cA ad (ScrW cA ad h0 s0) sz [.ref (h0 0)] (some (.int q.1)) (ScrW cA ad h0 q.2) := by
  generalize erm : ({ frames := 7, cells := 0, slots := 0, locals := 153 } : Room) = rm
  refine zMet (by decide) (Nat.le_of_ble_eq_true rfl) ?_
  intro p e s m below meth c hx hb hr hlocks hml hts hown hin hK hP A eA hD hS hA hsz hN hE ls hl
  have hl : lv_has ls 3 [(0, .ref (h0 0))] := hl
  clear eA
  rw [fX9_read] at h
  refine lv_aload_n hx hb dX9_read_0 rfl (lv_at hl 0 rfl) ?_
  refine lv_iconst (v := 0) hx hb dX9_read_1 (by decide) ?_
  refine va_put (D := D) (ci := 9) (v := .int 0) (ty := .int) (C := RX9) (T := TX9) (N := 6) hx hb hts iX9 tyX9 tyX9_ok nmX9 hown hK hP hD hS 0 rfl rfl 5 (by decide) (hts _ qfl_X9_29) (fun _ h9 => h9) rfl (by decide +kernel) rfl rfl (Nat.le_of_ble_eq_true rfl) dX9_read_2 (fun H locs hP hD hS => ?_)
  have hP : va_P D vwCl (ScrW cA ad h0 ((Scrs5 s0 0))) H := hP
  have hD : va_D A (ScrW cA ad h0 ((Scrs5 s0 0))) := hD
  refine lv_aload_n hx hb dX9_read_5 rfl (lv_at hl 0 rfl) ?_
  refine lv_iconst (v := 0) hx hb dX9_read_6 (by decide) ?_
  refine va_put (D := D) (ci := 9) (v := .int 0) (ty := .int) (C := RX9) (T := TX9) (N := 6) hx hb hts iX9 tyX9 tyX9_ok nmX9 hown hK hP hD hS 0 rfl rfl 4 (by decide) (hts _ qfl_X9_32) (fun _ h9 => h9) rfl (by decide +kernel) rfl rfl (Nat.le_of_ble_eq_true rfl) dX9_read_7 (fun H locs hP hD hS => ?_)
  have hP : va_P D vwCl (ScrW cA ad h0 ((Scrs5 (Scrs4 s0 0) 0))) H := hP
  have hD : va_D A (ScrW cA ad h0 ((Scrs5 (Scrs4 s0 0) 0))) := hD
  refine lv_aload_n hx hb dX9_read_10 rfl (lv_at hl 0 rfl) ?_
  obtain ⟨q1, c1, h⟩ := x_call h
  refine xCall (w2 := ScrW cA ad h0 q1.2) (zRunV (n := 0) (As := []) (rest := []) ⟨hx, hb, hml, hown, hts⟩ (kX9_readCommand l D cA ad h0 _ N ((Scrs5 (Scrs4 s0 0) 0)) q1 c1) qco_X9_readCommand qml_X9_35 qin_X9_readCommand qse_X9_readCommand qini_X9 (by decide +kernel) (by rw [← erm]; rfl) hN hE hS hA hK hP hD [0, 1, 2, 3] rfl rfl (q0 := 0) rfl rfl rfl rfl rfl hl.1 rfl (lv_room (Nat.le_of_ble_eq_true rfl)) dX9_read_11 ⟨Nat.zero_le _, Nat.zero_le _⟩) hP hD hS hA [0, 1, 2, 3] [] [0, 1, 2, 3] rfl (wr := []) rfl rfl rfl rfl rfl (fun H locs hP hD hS => ?_)
  refine lv_istore_n (lv' := [(1, .int q1.1), (0, .ref (h0 0))]) hx hb dX9_read_14 rfl hl (by decide) rfl (fun ls hl => ?_)
  refine lv_iconst (v := 1) hx hb dX9_read_15 (by decide) ?_
  refine lv_istore_n (lv' := [(2, .int 1), (1, .int q1.1), (0, .ref (h0 0))]) hx hb dX9_read_16 rfl hl (by decide) rfl (fun ls hl => ?_)
  obtain ⟨K57, eK57, h⟩ := x_join h
  have hJ_K57 : ∀ (v1_2 : Int32) (s0_2 : ScrS) (H : Heap) (locs : List Loc), va_P D vwCl (ScrW cA ad h0 s0_2) H → va_D A (ScrW cA ad h0 s0_2) → va_S A s.heap H locs → ∀ ls : Array Slot, lv_has ls 3 [(0, .ref (h0 0)), (1, .int v1_2)] → K57 v1_2 s0_2 = some q → W p l e rm s m ([.ref (h0 0)] : List Value).toArray below meth c H locs 0 0 (MQ below (xQ D cA A (ScrW cA ad h0 q.2) (some (.int q.1))) ([.ref (h0 0)] : List Value).toArray s 0 0 A) (F0 m 57 ls []) := by
    clear h hP hD hS hl
    intro v1_2 s0_2 H locs hP hD hS ls hl h
    rw [eK57] at h
    refine lv_iload_n hx hb dX9_read_57 rfl (lv_at hl 1 rfl) ?_
    obtain ⟨J77, eJ77, h⟩ := x_join h
    have hJ_J77 : ∀ (t0_3 : Int32) (s0_3 : ScrS) (H : Heap) (locs : List Loc), va_P D vwCl (ScrW cA ad h0 s0_3) H → va_D A (ScrW cA ad h0 s0_3) → va_S A s.heap H locs → ∀ ls : Array Slot, lv_has ls 3 [] → J77 t0_3 s0_3 = some q → W p l e rm s m ([.ref (h0 0)] : List Value).toArray below meth c H locs 0 0 (MQ below (xQ D cA A (ScrW cA ad h0 q.2) (some (.int q.1))) ([.ref (h0 0)] : List Value).toArray s 0 0 A) (F0 m 77 ls [.int t0_3]) := by
      clear h hP hD hS hl
      intro t0_3 s0_3 H locs hP hD hS ls hl h
      rw [eJ77] at h
      obtain ⟨z4, h⟩ := x_nz h
      have h := Option.some.inj h
      subst h
      exact xZret hx hb hr hlocks (xnar_n z4) hP hK hD hS dX9_read_77
    obtain ⟨J76, eJ76, h⟩ := x_join h
    have hJ_J76 : ∀ (s0_5 : ScrS) (H : Heap) (locs : List Loc), va_P D vwCl (ScrW cA ad h0 s0_5) H → va_D A (ScrW cA ad h0 s0_5) → va_S A s.heap H locs → ∀ ls : Array Slot, lv_has ls 3 [] → J76 s0_5 = some q → W p l e rm s m ([.ref (h0 0)] : List Value).toArray below meth c H locs 0 0 (MQ below (xQ D cA A (ScrW cA ad h0 q.2) (some (.int q.1))) ([.ref (h0 0)] : List Value).toArray s 0 0 A) (F0 m 76 ls []) := by
      clear h hP hD hS hl
      intro s0_5 H locs hP hD hS ls hl h
      rw [eJ76] at h
      refine lv_iconst (v := 0) hx hb dX9_read_76 (by decide) ?_
      exact hJ_J77 0 s0_5 _ _ hP hD hS _ (lv_sub hl [] rfl) h
    refine lv_if_eq (tgt := 76) hx hb dX9_read_58 (by decide) (fun c6 => ?_) (fun c6 => ?_)
    · have h := x_t h c6
      exact hJ_J76 s0_2 _ _ hP hD hS _ (lv_sub hl [] rfl) h
    · have h := x_f h c6
      refine lv_aload_n hx hb dX9_read_61 rfl (lv_at hl 0 rfl) ?_
      refine va_get (D := D) (ci := 9) (v := .int s0_2.2.2.2.2.2) (C := RX9) (T := TX9) (N := 6) hx hb hts iX9 hown hK hP 0 rfl rfl 5 (by decide) (hts _ qfl_X9_29) (fun _ h9 => h9) rfl dX9_read_62 ?_
      refine lv_aload_n hx hb dX9_read_65 rfl (lv_at hl 0 rfl) ?_
      refine va_get (D := D) (ci := 9) (v := .int s0_2.2.1) (C := RX9) (T := TX9) (N := 6) hx hb hts iX9 hown hK hP 0 rfl rfl 1 (by decide) (hts _ qfl_X9_25) (fun _ h9 => h9) rfl dX9_read_66 ?_
      refine lv_icmp_ne (tgt := 76) hx hb dX9_read_69 (by decide) (fun c7 => ?_) (fun c7 => ?_)
      · have h := x_f h c7
        exact hJ_J76 s0_2 _ _ hP hD hS _ (lv_sub hl [] rfl) h
      · have h := x_t h c7
        refine lv_iconst (v := 1) hx hb dX9_read_72 (by decide) ?_
        refine lv_goto (tgt := 77) hx hb dX9_read_73 (by decide) ?_
        exact hJ_J77 1 s0_2 _ _ hP hD hS _ (lv_sub hl [] rfl) h
  have hL17 : ∀ (n : Nat) (v1_8 : Int32) (v2_8 : Int32) (s0_8 : ScrS) (H : Heap) (locs : List Loc), va_P D vwCl (ScrW cA ad h0 s0_8) H → va_D A (ScrW cA ad h0 s0_8) → va_S A s.heap H locs → ∀ ls : Array Slot, lv_has ls 3 [(0, .ref (h0 0)), (1, .int v1_8), (2, .int v2_8)] → fX9_read_L17 N K57 n v1_8 v2_8 s0_8 = some q → W p l e rm s m ([.ref (h0 0)] : List Value).toArray below meth c H locs 0 0 (MQ below (xQ D cA A (ScrW cA ad h0 q.2) (some (.int q.1))) ([.ref (h0 0)] : List Value).toArray s 0 0 A) (F0 m 17 ls []) := by
    clear h hP hD hS hl
    intro n
    induction n with
    | zero => intro v1_8 v2_8 s0_8 H locs hP hD hS ls hl h; rw [fX9_read_L17] at h; cases h
    | succ n ih =>
      intro v1_8 v2_8 s0_8 H locs hP hD hS ls hl h
      rw [fX9_read_L17] at h
      refine lv_iload_n hx hb dX9_read_17 rfl (lv_at hl 2 rfl) ?_
      refine lv_bipush (v := 12) hx hb dX9_read_18 (by decide) ?_
      refine lv_icmp_gt (tgt := 57) hx hb dX9_read_20 (by decide) (fun c9 => ?_) (fun c9 => ?_)
      · have h := x_t h c9
        exact hJ_K57 v1_8 s0_8 _ _ hP hD hS _ (lv_sub hl [0, 1] rfl) h
      · have h := x_f h c9
        refine lv_iload_n hx hb dX9_read_23 rfl (lv_at hl 1 rfl) ?_
        refine lv_if_eq (tgt := 57) hx hb dX9_read_24 (by decide) (fun c10 => ?_) (fun c10 => ?_)
        · have h := x_t h c10
          exact hJ_K57 v1_8 s0_8 _ _ hP hD hS _ (lv_sub hl [0, 1] rfl) h
        · have h := x_f h c10
          refine lv_aload_n hx hb dX9_read_27 rfl (lv_at hl 0 rfl) ?_
          refine lv_bipush (v := 59) hx hb dX9_read_28 (by decide) ?_
          obtain ⟨q11, c11, h⟩ := x_call h
          refine xCall (w2 := ScrW cA ad h0 s0_8) (zRunV (n := 1) (As := [.int 59]) (rest := []) ⟨hx, hb, hml, hown, hts⟩ (kX9_isNext l D cA ad h0 _ N 59 s0_8 q11 c11) qco_X9_isNext qml_X9_39 qin_X9_isNext qse_X9_isNext qini_X9 (by decide +kernel) (by rw [← erm]; rfl) hN hE hS hA hK hP hD [0, 1, 2, 3] rfl rfl (q0 := 0) rfl rfl rfl rfl rfl hl.1 rfl (lv_room (Nat.le_of_ble_eq_true rfl)) dX9_read_30 ⟨Nat.zero_le _, Nat.zero_le _⟩) hP hD hS hA [0, 1, 2, 3] [] [0, 1, 2, 3] rfl (wr := []) rfl rfl rfl rfl rfl (fun H locs hP hD hS => ?_)
          refine lv_if_eq (tgt := 57) hx hb dX9_read_33 (by decide) (fun c12 => ?_) (fun c12 => ?_)
          · have h := x_t h c12
            exact hJ_K57 v1_8 s0_8 _ _ hP hD hS _ (lv_sub hl [0, 1] rfl) h
          · have h := x_f h c12
            refine lv_aload_n hx hb dX9_read_36 rfl (lv_at hl 0 rfl) ?_
            refine lv_dup hx hb dX9_read_37 rfl ?_
            refine va_get (D := D) (ci := 9) (v := .int s0_8.2.2.2.2.2) (C := RX9) (T := TX9) (N := 6) hx hb hts iX9 hown hK hP 0 rfl rfl 5 (by decide) (hts _ qfl_X9_29) (fun _ h9 => h9) rfl dX9_read_38 ?_
            refine lv_iconst (v := 1) hx hb dX9_read_41 (by decide) ?_
            refine lv_iadd hx hb dX9_read_42 ?_
            refine lv_topi (fun x13 ex13 => ?_)
            have h := x_let h ex13
            refine va_put (D := D) (ci := 9) (v := .int x13) (ty := .int) (C := RX9) (T := TX9) (N := 6) hx hb hts iX9 tyX9 tyX9_ok nmX9 hown hK hP hD hS 0 rfl rfl 5 (by decide) (hts _ qfl_X9_29) (fun _ h9 => h9) rfl (by decide +kernel) rfl rfl (Nat.le_of_ble_eq_true rfl) dX9_read_43 (fun H locs hP hD hS => ?_)
            have hP : va_P D vwCl (ScrW cA ad h0 ((Scrs5 s0_8 x13))) H := hP
            have hD : va_D A (ScrW cA ad h0 ((Scrs5 s0_8 x13))) := hD
            refine lv_aload_n hx hb dX9_read_46 rfl (lv_at hl 0 rfl) ?_
            obtain ⟨q14, c14, h⟩ := x_call h
            refine xCall (w2 := ScrW cA ad h0 q14.2) (zRunV (n := 0) (As := []) (rest := []) ⟨hx, hb, hml, hown, hts⟩ (kX9_readCommand l D cA ad h0 _ N ((Scrs5 s0_8 x13)) q14 c14) qco_X9_readCommand qml_X9_35 qin_X9_readCommand qse_X9_readCommand qini_X9 (by decide +kernel) (by rw [← erm]; rfl) hN hE hS hA hK hP hD [0, 1, 2, 3] rfl rfl (q0 := 0) rfl rfl rfl rfl rfl hl.1 rfl (lv_room (Nat.le_of_ble_eq_true rfl)) dX9_read_47 ⟨Nat.zero_le _, Nat.zero_le _⟩) hP hD hS hA [0, 1, 2, 3] [] [0, 1, 2, 3] rfl (wr := []) rfl rfl rfl rfl rfl (fun H locs hP hD hS => ?_)
            refine lv_istore_n (lv' := [(1, .int q14.1), (0, .ref (h0 0)), (2, .int v2_8)]) hx hb dX9_read_50 rfl hl (by decide) rfl (fun ls hl => ?_)
            obtain ⟨x15, ex15⟩ : ∃ y : Int32, y = v2_8 + (1) := ⟨_, rfl⟩
            have h := x_let h ex15
            refine lv_iinc (v := x15) (lv' := [(2, .int x15), (1, .int q14.1), (0, .ref (h0 0))]) hx hb dX9_read_51 hl (k := 2) rfl (by rw [ex15]; rfl) (by decide) rfl (fun ls hl => ?_)
            refine lv_goto (tgt := 17) hx hb dX9_read_54 (by decide) ?_
            exact ih q14.1 x15 q14.2 _ _ hP hD hS _ (lv_sub hl [2, 1, 0] rfl) h
  exact hL17 N q1.1 1 q1.2 _ _ hP hD hS _ (lv_sub hl [2, 1, 0] rfl) h
