/-! the reference, method by method: what it computes, and that its bytes compute it -/
def fX13_in (N : Nat) (a0 : Int32) (a1 : Int32) (a2 : Int32)  : Option (Int32) :=
  xjoin (fun (t0_1 : Int32) =>
      xnz (xnar .boolean t0_1) <|
      some t0_1
    ) fun J15 =>
  xjoin (fun (u_3 : Unit) =>
      J15 0
    ) fun J14 =>
  if a0 < a1 then
    J14 ()
  else
    if a2 < a0 then
      J14 ()
    else
      J15 1
set_option maxRecDepth 100000 in
set_option maxHeartbeats 4000000 in
theorem kX13_in (l : Launch) (D : va_G) (cA : Nat → ClassId)  (sz N : Nat) (a0 : Int32) (a1 : Int32) (a2 : Int32)  (q : Int32) (h : fX13_in N a0 a1 a2 = some q) : xM l yX13_in cX13_in 3 (some .boolean) ({ frames := 0, cells := 0, slots := 0, locals := 0 }) D cA (([] : va_W)) sz [.int a0, .int a1, .int a2] (some (.int q)) (([] : va_W)) := by
  generalize erm : ({ frames := 0, cells := 0, slots := 0, locals := 0 } : Room) = rm
  refine xMet (by decide) (by decide) ?_
  intro p e s m below meth c hx hb hr hlocks hml hts hown hin hK hP A eA hD hS hA hsz ls hl
  have hl : lv_has ls 3 [(0, .int a0), (1, .int a1), (2, .int a2)] := hl
  clear eA
  rw [fX13_in] at h
  refine lv_iload_n hx hb dX13_in_0 rfl (lv_at hl 0 rfl) ?_
  refine lv_iload_n hx hb dX13_in_1 rfl (lv_at hl 1 rfl) ?_
  obtain ⟨J15, eJ15, h⟩ := x_join h
  have hJ_J15 : ∀ (t0_1 : Int32) (H : Heap) (locs : List Loc), va_P D vwCl (([] : va_W)) H → va_D A (([] : va_W)) → va_S A s.heap H locs → ∀ ls : Array Slot, lv_has ls 3 [] → J15 t0_1 = some q → W p l e rm s m ([.int a0, .int a1, .int a2] : List Value).toArray below meth c H locs 0 0 (MQ below (xQ D cA A (([] : va_W)) (some (.int q))) ([.int a0, .int a1, .int a2] : List Value).toArray s 0 0 A) (F0 m 15 ls [.int t0_1]) := by
    clear h hP hD hS hl
    intro t0_1 H locs hP hD hS ls hl h
    rw [eJ15] at h; beta_reduce at h
    obtain ⟨z2, h⟩ := x_nz h
    have h := Option.some.inj h
    subst h
    exact xZret hx hb hr hlocks (xnar_n z2) hP hK hD hS dX13_in_15
  obtain ⟨J14, eJ14, h⟩ := x_join h
  have hJ_J14 : ∀ (u_3 : Unit) (H : Heap) (locs : List Loc), va_P D vwCl (([] : va_W)) H → va_D A (([] : va_W)) → va_S A s.heap H locs → ∀ ls : Array Slot, lv_has ls 3 [] → J14 u_3 = some q → W p l e rm s m ([.int a0, .int a1, .int a2] : List Value).toArray below meth c H locs 0 0 (MQ below (xQ D cA A (([] : va_W)) (some (.int q))) ([.int a0, .int a1, .int a2] : List Value).toArray s 0 0 A) (F0 m 14 ls []) := by
    clear h hP hD hS hl
    intro u_3 H locs hP hD hS ls hl h
    rw [eJ14] at h; beta_reduce at h
    refine lv_iconst (v := 0) hx hb dX13_in_14 (by decide) ?_
    exact hJ_J15 0 _ _ hP hD hS _ (lv_sub hl [] rfl) h
  refine lv_icmp_lt (tgt := 14) hx hb dX13_in_2 (by decide) (fun c4 => ?_) (fun c4 => ?_)
  · have h := x_t h c4
    exact hJ_J14 () _ _ hP hD hS _ (lv_sub hl [] rfl) h
  · have h := x_f h c4
    refine lv_iload_n hx hb dX13_in_5 rfl (lv_at hl 0 rfl) ?_
    refine lv_iload_n hx hb dX13_in_6 rfl (lv_at hl 2 rfl) ?_
    refine lv_icmp_gt (tgt := 14) hx hb dX13_in_7 (by decide) (fun c5 => ?_) (fun c5 => ?_)
    · have h := x_t h c5
      exact hJ_J14 () _ _ hP hD hS _ (lv_sub hl [] rfl) h
    · have h := x_f h c5
      refine lv_iconst (v := 1) hx hb dX13_in_10 (by decide) ?_
      refine lv_goto (tgt := 15) hx hb dX13_in_11 (by decide) ?_
      exact hJ_J15 1 _ _ hP hD hS _ (lv_sub hl [] rfl) h
