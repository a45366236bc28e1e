/-! ===== fails, isOutput, at ===== -/
set_option maxRecDepth 100000 in
set_option maxHeartbeats 4000000 in
theorem l_fails (l : Launch) (hl9 : l.stackTraces = false) (D : va_G) (cA : Nat → ClassId) (ad an tt : Nat → Nat) (hr : Nat → Nat → Nat) (h0 : Nat → Nat) (sz n : Nat) (i : Nat) (hi : i < 19) (x1 : Int) (t : ThlS) (r : Nat → BooS) (Wo : SO) (hV : V n t r Wo) (hn : n + 12 ≤ 512) (hT : oT Wo = []) (hbad : ¬ ((rdT (txI i)).1 = true ∧ (rdT (txI i)).2.2 = (txI i).length)) (hp : ((rdT (txI i)).2.2 : Int) = x1) : lM l yL_fails (.code yL_fails cL_fails 3 (some .boolean)) ({ frames := 10, cells := 62, slots := 372, locals := 230 }) D cA ad an tt (fun _ => True) (TR cA ad hr h0 t r) sz [.ref (h0 0), .ref (tt i), .int (iI x1)] (fun _ => some (.int 1)) (fun u : ThlS × (Nat → BooS) => V (n + 12) u.1 u.2 (oS Wo, oH Wo, oV Wo, [], x1, oF Wo, oO Wo)) (fun u => TR cA ad hr h0 u.1 u.2) 62 372 := by
  generalize erm : ({ frames := 10, cells := 62, slots := 372, locals := 230 } : Room) = rm
  refine lMet (by decide) rfl (Nat.le_of_ble_eq_true rfl) ?_
  intro p e s m below meth c A eA B hP hD hS hsz _ ls hl
  have hl : lv_has ls 3 [(0, .ref (h0 0)), (1, .ref (tt i)), (2, .int (iI x1))] := hl
  have hx := B.1.1
  have hb := B.1.2.1
  have hP := ocP hP
  have hD := ocPD hD
  have eR : oRun (tW Wo (txI i)) = (3, 0, (oS Wo, oH Wo, oV Wo, [], x1, oF Wo, oO Wo)) := by
    unfold oRun
    show (if (rdT (txI i)).1 = true ∧ (rdT (txI i)).2.2 = (txI i).length then _ else _) = _
    rw [if_neg hbad]
    show (3, 0, (oS Wo, oH Wo, oV Wo, [], ((rdT (txI i)).2.2 : Int), oF Wo, oO Wo)) = _
    rw [hp]
  refine lv_aload_n hx hb dL_fails_0 rfl (lv_at hl 0 rfl) ?_
  refine lv_aload_n hx hb dL_fails_1 rfl (lv_at hl 1 rfl) ?_
  refine ocL (F := fun u => u) (mc := 60) (ms := 360) B rfl hP hD hS (l_put l hl9 D cA ad an tt hr h0 _ n i hi t r Wo hV hT) qco_L_put qml_L_191 qst_L_put qini_L (show xCd yL_put 2 = true by decide +kernel) (by rw [← erm]; rfl) hl.1 rfl (lv_room (Nat.le_of_ble_eq_true rfl)) dL_fails_2 ⟨by rw [← erm]; exact Nat.le_of_ble_eq_true rfl, by rw [← erm]; exact Nat.le_of_ble_eq_true rfl⟩ (fun u1 hV1 H locs hP hD hS => ?_)
  refine lv_aload_n hx hb dL_fails_5 rfl (lv_at hl 0 rfl) ?_
  refine ocLW (F := fun u => u) (mc := 1) (ms := 6) B rfl hP hD hS (l_runs l hl9 D cA ad an tt hr h0 _ n u1.1 u1.2 _ hV1 hn) qcw_L_runs qml_L_204 qst_L_runs qini_L (show xCd yL_runs 1 = true by decide +kernel) (by rw [← erm]; rfl) hl.1 rfl (lv_room (Nat.le_of_ble_eq_true rfl)) dL_fails_6 ⟨by rw [← erm]; exact Nat.le_of_ble_eq_true rfl, by rw [← erm]; exact Nat.le_of_ble_eq_true rfl⟩ (fun u2 hV2 H locs hP hD hS => ?_)
  rw [eR] at hV2 ⊢
  refine lv_iconst (v := (-1)) hx hb dL_fails_9 (by decide) ?_
  refine lv_icmp_ne (tgt := 25) hx hb dL_fails_10 (by decide) (fun cc => absurd (show iI (resN (3, 0, (oS Wo, oH Wo, oV Wo, [], x1, oF Wo, oO Wo))) = (-1 : Int32) from (by decide +kernel : iI (exR 3) = (-1 : Int32))) cc) (fun _ => ?_)
  have e9 := V_error hV2 (by show x1 ≠ -1; omega)
  refine lv_aload_n hx hb dL_fails_13 rfl (lv_at hl 0 rfl) ?_
  refine ocT (t9 := u2.1) (mc := 1) (ms := 6) B rfl hP hD hS (kX12_errorPosition l hl9 D cA ad hr h0 _ 2000 u2.1 (0, iI x1) e9) qco_X12_errorPosition qml_L_334 qin_X12_errorPosition qse_X12_errorPosition qini_X12 (show xCd yX12_errorPosition 0 = true by decide +kernel) (by rw [← erm]; rfl) hl.1 rfl (lv_room (Nat.le_of_ble_eq_true rfl)) dL_fails_14 ⟨by rw [← erm]; exact Nat.le_of_ble_eq_true rfl, by rw [← erm]; exact Nat.le_of_ble_eq_true rfl⟩ (fun H locs hP hD hS => ?_)
  refine lv_iload_n hx hb dL_fails_17 rfl (lv_at hl 2 rfl) ?_
  refine lv_icmp_ne (tgt := 25) hx hb dL_fails_18 (by decide) (fun cc => absurd rfl cc) (fun _ => ?_)
  refine lv_iconst (v := 1) hx hb dL_fails_21 (by decide) ?_
  refine lv_goto (tgt := 26) hx hb dL_fails_22 (by decide) ?_
  exact lZret (v := 1) u2 rfl hV2 hx hb B.2.1 B.2.2.1 (by decide) (ocQ hP) B.2.2.2.1 (ocQD hD) hS dL_fails_26
set_option maxRecDepth 100000 in
set_option maxHeartbeats 4000000 in
theorem l_isOutput (l : Launch) (hl9 : l.stackTraces = false) (D : va_G) (cA : Nat → ClassId) (ad an tt : Nat → Nat) (hr : Nat → Nat → Nat) (h0 : Nat → Nat) (sz n : Nat) (i : Nat) (hi : i < 19) (t : ThlS) (r : Nat → BooS) (Wo : SO) (hV : V n t r Wo) (hO : oO Wo = txI i) : lM l yL_isOutput (.code yL_isOutput cL_isOutput 4 (some .boolean)) ({ frames := 7, cells := 60, slots := 360, locals := 111 }) D cA ad an tt (fun _ => True) (TR cA ad hr h0 t r) sz [.ref (h0 0), .int (iI ((txI i).length : Int)), .ref (tt i)] (fun _ => some (.int 1)) (fun u : ThlS × (Nat → BooS) => V n u.1 u.2 Wo) (fun u => TR cA ad hr h0 u.1 u.2) 60 360 := by
  generalize erm : ({ frames := 7, cells := 60, slots := 360, locals := 111 } : Room) = rm
  refine lMet (by decide) rfl (Nat.le_of_ble_eq_true rfl) ?_
  intro p e s m below meth c A eA B hP hD hS hsz _ ls hl
  have hl : lv_has ls 4 [(0, .ref (h0 0)), (1, .int (iI ((txI i).length : Int))), (2, .ref (tt i))] := hl
  have hx := B.1.1
  have hb := B.1.2.1
  have hP := ocP hP
  have hD := ocPD hD
  have hln := tx_len hi
  have loop : ∀ (j k : Nat), k + j = (txI i).length → ∀ (cz : Nat), cz + j ≤ 60 → ∀ (H : Heap) (locs : List Loc), va_P D vwCl ([] ++ (TR cA ad hr h0 t r ++ [])) H → va_D A ([] ++ (TR cA ad hr h0 t r ++ [])) → va_S A s.heap H locs → ∀ ls : Array Slot, lv_has ls 4 [(3, .int (iI (k : Int))), (0, .ref (h0 0)), (1, .int (iI ((txI i).length : Int))), (2, .ref (tt i))] → W p l e rm s m ([.ref (h0 0), .int (iI ((txI i).length : Int)), .ref (tt i)] : List Value).toArray below meth c H locs cz (6 * cz) (MQ below (lQ D cA A (fun _ => some (.int 1)) (fun u : ThlS × (Nat → BooS) => V n u.1 u.2 Wo) (fun u => TR cA ad hr h0 u.1 u.2)) ([.ref (h0 0), .int (iI ((txI i).length : Int)), .ref (tt i)] : List Value).toArray s 60 360 A) (F0 m 12 ls []) := by
    clear hP hD hS hl
    intro j
    induction j with
    | zero =>
      intro k hk cz hcz H locs hP hD hS ls hl
      refine lv_iload_n hx hb dL_isOutput_12 rfl (lv_at hl 0 rfl) ?_
      refine lv_iload_n hx hb dL_isOutput_13 rfl (lv_at hl 2 rfl) ?_
      refine lv_icmp_ge (tgt := 38) hx hb dL_isOutput_14 (by decide) (fun _ => ?_) (fun cc => absurd (by rw [i_le (by omega) (by omega) (by omega) (by omega)]; omega) cc)
      refine lv_iconst (v := 1) hx hb dL_isOutput_38 (by decide) ?_
      refine W.widen (k := 60) (n := 360) (by omega) (by omega) ?_
      exact lZret (v := 1) (t, r) rfl hV hx hb B.2.1 B.2.2.1 (by decide) (ocQ hP) B.2.2.2.1 (ocQD hD) hS dL_isOutput_39
    | succ j ih =>
      intro k hk cz hcz H locs hP hD hS ls hl
      obtain ⟨x, x1, x2, x3⟩ := tx_at hi (k := k) (by omega)
      have e9 := V_out hV (i := k) (c := x) (by rw [hO]; exact x1)
      refine lv_iload_n hx hb dL_isOutput_12 rfl (lv_at hl 0 rfl) ?_
      refine lv_iload_n hx hb dL_isOutput_13 rfl (lv_at hl 2 rfl) ?_
      refine lv_icmp_ge (tgt := 38) hx hb dL_isOutput_14 (by decide) (fun cc => absurd cc (by rw [i_le (by omega) (by omega) (by omega) (by omega)]; omega)) (fun _ => ?_)
      refine lv_aload_n hx hb dL_isOutput_17 rfl (lv_at hl 1 rfl) ?_
      refine lv_iload_n hx hb dL_isOutput_18 rfl (lv_at hl 0 rfl) ?_
      refine ocT (t9 := t) (mc := 1) (ms := 6) B rfl hP hD hS (kX12_outputChar l hl9 D cA ad hr h0 _ 2000 (iI (k : Int)) t (0, iI x) e9) qco_X12_outputChar qml_L_331 qin_X12_outputChar qse_X12_outputChar qini_X12 (show xCd yX12_outputChar 1 = true by decide +kernel) (by rw [← erm]; rfl) hl.1 rfl (lv_room (Nat.le_of_ble_eq_true rfl)) dL_isOutput_19 ⟨by rw [← erm]; show cz + 1 ≤ 60; omega, by rw [← erm]; show 6 * cz + 6 ≤ 360; omega⟩ (fun H locs hP hD hS => ?_)
      refine lv_aload_n hx hb dL_isOutput_22 rfl (lv_at hl 3 rfl) ?_
      refine lv_iload_n hx hb dL_isOutput_23 rfl (lv_at hl 0 rfl) ?_
      refine ocChr B hP hD hS hi (k := k) (by omega) x1 qml_L_13 (by rw [← erm]; decide) hl.1 rfl (lv_room (Nat.le_of_ble_eq_true rfl)) dL_isOutput_24 ⟨by rw [← erm]; show cz + 1 ≤ 60; omega, by rw [← erm]; show 6 * cz + 6 ≤ 360; omega⟩ (fun H locs hP hD hS => ?_)
      refine lv_icmp_eq (tgt := 32) hx hb dL_isOutput_27 (by decide) (fun _ => ?_) (fun cc => absurd rfl cc)
      refine lv_iinc (v := iI ((k + 1 : Nat) : Int)) (lv' := [(3, .int (iI ((k + 1 : Nat) : Int))), (0, .ref (h0 0)), (1, .int (iI ((txI i).length : Int))), (2, .ref (tt i))]) hx hb dL_isOutput_32 hl (k := 0) rfl (by show iI (k : Int) + iI 1 = _; rw [i_add]; rfl) (by decide) rfl (fun ls hl => ?_)
      refine lv_goto (tgt := 12) hx hb dL_isOutput_35 (by decide) ?_
      have h6 : 6 * cz + 6 = 6 * (cz + 1) := by omega
      rw [h6]
      exact ih (k + 1) (by omega) (cz + 1) (by omega) H locs hP hD hS ls hl
  refine lv_iload_n hx hb dL_isOutput_0 rfl (lv_at hl 1 rfl) ?_
  refine lv_aload_n hx hb dL_isOutput_1 rfl (lv_at hl 2 rfl) ?_
  refine ocLen B hP hD hS hi qml_L_7 (by rw [← erm]; decide) hl.1 rfl (lv_room (Nat.le_of_ble_eq_true rfl)) dL_isOutput_2 ⟨Nat.zero_le _, Nat.zero_le _⟩ (fun H locs hP hD hS => ?_)
  refine lv_icmp_eq (tgt := 10) hx hb dL_isOutput_5 (by decide) (fun _ => ?_) (fun cc => absurd rfl cc)
  refine lv_iconst (v := 0) hx hb dL_isOutput_10 (by decide) ?_
  refine lv_istore_n (lv' := [(3, .int (iI ((0 : Nat) : Int))), (0, .ref (h0 0)), (1, .int (iI ((txI i).length : Int))), (2, .ref (tt i))]) hx hb dL_isOutput_11 rfl hl (by decide) rfl (fun ls hl => ?_)
  exact loop (txI i).length 0 (by omega) 0 (by omega) H locs hP hD hS ls hl
/-- the script's number at a place, 0 behind its end -/
def atX (L : Nat) (xs : Nat → Int32) (k : Nat) : Int32 := if k < L then xs k else 0
theorem vSld {p : Program} {l : Launch} {e : Env} {R : Room} {s : State} {m : MethodId} {args : Array Value} {below : List Frame} {meth : Method} {c : Code} {H H0 : Heap} {locs : List Loc} {cells slots : Nat} {Q : State → Prop} {cc : ByteArray} {pc : Nat} {ls : Array Slot} {rest : List Value} {A : Nat → Prop} (hexec : p.tables.exec = Jvm.exec) (hb : c.code = cc) {b L : Nat} {xs : Nat → Int32} (hX : va_X b L xs s H0) (hbl : b < H0.size) (hbA : ¬ A b) (hS : va_S A H0 H locs) {i : Int32} {k : Nat} (hin : vp_in i L ∧ i.toNatClampNeg = k) (hdg : decode cc pc = .ok (.iaload, 1))
    (kk : W p l e R s m args below meth c H locs cells slots Q (F0 m (pc + 1) ls (.int (xs k) :: rest))) : W p l e R s m args below meth c H locs cells slots Q (F0 m pc ls (.int i :: .ref b :: rest)) := by
  obtain ⟨h1, rfl⟩ := hin
  exact va_sld hexec hb hX hbl hbA hS h1 hdg kk
set_option maxRecDepth 100000 in
set_option maxHeartbeats 4000000 in
theorem l_at (l : Launch) (D : va_G) (cA : Nat → ClassId) (ad an tt : Nat → Nat) (sz b L : Nat) (xs : Nat → Int32) (k : Nat) (hk : k < 1000) (hL : L ≤ 260) : lM l yL_at (.code yL_at cL_at 2 (some .int)) ({ frames := 0, cells := 0, slots := 0, locals := 0 }) D cA ad an tt (sX b L xs sz) [] sz [.ref b, .int (iI (k : Int))] (fun _ : Unit => some (.int (atX L xs k))) (fun _ => True) (fun _ => []) 0 0 := by
  generalize erm : ({ frames := 0, cells := 0, slots := 0, locals := 0 } : Room) = rm
  refine lMet (by decide) rfl (Nat.le_of_ble_eq_true rfl) ?_
  intro p e s m below meth c A eA B hP hD hS hsz hX ls hl
  have hl : lv_has ls 2 [(0, .ref b), (1, .int (iI (k : Int)))] := hl
  have hx := B.1.1
  have hb := B.1.2.1
  have hbl : b < s.heap.size := by rw [hsz]; exact hX.2
  have hbA : ¬ A b := by
    rw [eA]
    rintro (⟨j, q, h⟩ | h)
    · exact nomatch h
    · exact Nat.not_le.mpr hX.2 h
  refine lv_iload_n hx hb dL_at_0 rfl (lv_at hl 1 rfl) ?_
  refine lv_aload_n hx hb dL_at_1 rfl (lv_at hl 0 rfl) ?_
  refine va_slen hx hb hX.1 hbl hbA hS dL_at_2 ?_
  have eL : Int32.ofNat L = iI (L : Int) := (Int32.ofInt_eq_ofNat).symm
  rw [eL]
  refine lv_icmp_ge (tgt := 12) hx hb dL_at_3 (by decide) (fun cc => ?_) (fun cc => ?_)
  · rw [i_le (by omega) (by omega) (by omega) (by omega)] at cc
    refine lv_iconst (v := 0) hx hb dL_at_12 (by decide) ?_
    exact lIret (v := 0) () (by unfold atX; rw [if_neg (by omega)]) trivial hx hb B.2.1 B.2.2.1 hP B.2.2.2.1 hD hS dL_at_13
  · rw [i_le (by omega) (by omega) (by omega) (by omega)] at cc
    refine lv_aload_n hx hb dL_at_6 rfl (lv_at hl 0 rfl) ?_
    refine lv_iload_n hx hb dL_at_7 rfl (lv_at hl 1 rfl) ?_
    refine vSld hx hb hX.1 hbl hbA hS (k := k) ⟨vp_in_iff.mpr ⟨by rw [i_int (by omega) (by omega)]; omega, by rw [i_int (by omega) (by omega)]; omega⟩, nat_cl (by omega)⟩ dL_at_8 ?_
    refine lv_goto (tgt := 13) hx hb dL_at_9 (by decide) ?_
    exact lIret (v := xs k) () (by unfold atX; rw [if_pos (by omega)]) trivial hx hb B.2.1 B.2.2.1 hP B.2.2.2.1 hD hS dL_at_13
