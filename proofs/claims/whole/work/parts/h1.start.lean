/-! ===== the law's start ===== -/
theorem sA0_all : (List.range 6).all (fun i => isKdB (aK sA0 i) && decide (-1 ≤ aP sA0 i) && decide (aP sA0 i < i) && decide (0 ≤ aD sA0 i) && decide (0 ≤ aC sA0 i)) = true := by decide +kernel
theorem wo0 : WO 0 0 sO0 := by
  have hWB : WB0 sA0 := by
    refine ⟨by decide, by decide, fun i hi => ?_, by decide +kernel, fun i hi => ?_, by decide +kernel⟩
    · have h := List.all_eq_true.mp sA0_all i (List.mem_range.mpr hi)
      simp only [Bool.and_eq_true, Bool.or_eq_true, decide_eq_true_eq, isKdB] at h
      unfold isKd
      omega
    · have hi : 6 ≤ i := hi
      have e1 : aD sA0 i = 0 := if_neg (by omega)
      have e2 : aC sA0 i = 0 := if_neg (by omega)
      exact ⟨e1, e2⟩
  have hJ : WJ sJ0 6 0 := ⟨by decide, fun e h1 h2 => absurd h2 (Nat.not_lt_zero _)⟩
  have hG : WG sG0 := ⟨hWB, hJ, ⟨by decide, fun x h => absurd h List.not_mem_nil⟩, ⟨by decide, fun x h => absurd h List.not_mem_nil⟩, ⟨by decide, by decide, fun x h => absurd h List.not_mem_nil⟩, by decide, by decide, by decide +kernel, by decide +kernel⟩
  have hB : BD 0 0 sG0 := ⟨by decide +kernel, by decide +kernel, by decide, by decide, by decide, by decide⟩
  exact ⟨⟨hG, hB⟩, fun S h => absurd h List.not_mem_nil, fun S h => (nomatch h), by decide, ⟨by decide, fun x h => absurd h List.not_mem_nil⟩, ⟨by decide, fun x h => absurd h List.not_mem_nil⟩, by decide, by decide⟩
theorem nPerm3 {F B C : va_W} (hF : F.length = 286) (hB : B.length = 8) (hC : C.length = 2) : (mid 286 8 ++ mid 294 2 ++ mid 0 286).map (fun i => (F ++ (B ++ C))[i]?) = (B ++ (C ++ F)).map some := by
  have h1 : (mid 286 8).map (fun i => (F ++ (B ++ C))[i]?) = B.map some := mid_C hF hB
  have h2 : (mid 0 286).map (fun i => (F ++ (B ++ C))[i]?) = F.map some := mid_C (A := []) rfl hF
  have h3 : (mid 294 2).map (fun i => (F ++ (B ++ C))[i]?) = C.map some := by
    have h := mid_C0 (A := F ++ B) (B := C) (a := 294) (n := 2) (by rw [List.length_append, hF, hB]) hC
    rw [List.append_assoc] at h
    exact h
  rw [List.map_append, List.map_append, h1, h2, h3, List.map_append, List.map_append, List.append_assoc]
theorem nPerm3_nd : va_nd (mid 286 8 ++ mid 294 2 ++ mid 0 286) = true := by decide +kernel
theorem fl9 (l : Launch) (h : l.flags = flags0) : l.stackTraces = false := by
  unfold Launch.stackTraces
  rw [h]
  decide +kernel
section START
variable {p : Program} {e : Env} {R : Room} {s : State} {m : MethodId} {below : List Frame} {meth : Method} {c : Code} {Q : State → Prop} {b L : Nat} {xs : Nat → Int32}
set_option maxRecDepth 100000 in
set_option maxHeartbeats 4000000 in
theorem law_start (l : Launch) (hl9 : l.stackTraces = false) (eR : R = ({ frames := 21, cells := 603072, slots := 7198826, locals := 10880 } : Room)) (hL : L ≤ 3072) (hx : p.tables.exec = Jvm.exec) (hb : c.code = cL_law) (hml : c.maxLocals = 9) (hown : s.vm.findClass RL = some m.cls) (hts0 : ∀ w ∈ lw_tbl, w.before #[Value.ref b] s = true) (hX : va_X b L xs s s.heap) (hbl : b < s.heap.size) (hg : narrow_1.before #[Value.ref b] s = true)
    (kx : ∀ (H : Heap) (locs : List Loc) (cells slots : Nat), cells ≤ 603072 → slots ≤ 7198826 → va_S (fun q : Nat => s.heap.size ≤ q) s.heap H locs → ∀ ls : Array Slot, W p l e R s m #[Value.ref b] below meth c H locs cells slots Q (F0 m 3253 ls [])) : W p l e R s m #[Value.ref b] below meth c s.heap [] 0 0 Q (entryFrame m ([Value.ref b] : List Value).toArray 9) := by
  have hA : ∀ q : Nat, s.heap.size ≤ q → (fun q : Nat => s.heap.size ≤ q) q := fun _ h => h
  have hbA : ¬ (fun q : Nat => s.heap.size ≤ q) b := Nat.not_le.mpr hbl
  have hA' : ∀ a : Nat, a < s.heap.size → ¬ (fun q : Nat => s.heap.size ≤ q) a := fun a h => Nat.not_le.mpr h
  have hts : ∀ w ∈ xW, w.before #[Value.ref b] s = true := fun w hw => hts0 w (List.mem_filter.mp hw).1
  have tw : ∀ {k : Nat} {w : Cond}, lw_tbl[k]? = some w → w.before #[Value.ref b] s = true := fun h => hts0 _ (List.mem_of_getElem? h)
  obtain ⟨D, cA, hK⟩ := env_K hts (tw n_OB) (tw n_OV)
  have hcur : s.vm.findClass "TheatreLedger" = some (D.1 11) := (hK.1 11 _ rfl).2.1
  obtain ⟨ad, hE⟩ := env_E (A := fun q : Nat => s.heap.size ≤ q) hts0 hg hA'
  obtain ⟨an, hNE⟩ := env_N (A := fun q : Nat => s.heap.size ≤ q) hts0 hg hA'
  have hV := env_V (A := fun q : Nat => s.heap.size ≤ q) hcur hts0 hg hA'
  have hXK := env_X hg
  have hN := env_xN hts0
  have hP : va_P D vwCl ([] : va_W) s.heap := fun k q h => by simp at h
  have hD : va_D (fun q : Nat => s.heap.size ≤ q) ([] : va_W) := ⟨fun i j p q h => by simp at h, fun k q h => by simp at h⟩
  have hS : va_S (fun q : Nat => s.heap.size ≤ q) s.heap s.heap [] := va_S.rf
  have hl := lv_entry ([.ref b]) (n := 9) (Nat.le_of_ble_eq_true rfl)
  rw [lg_entry_eq]
  generalize (lg_sl ([.ref b]) ++ List.replicate (9 - (lg_sl ([.ref b])).length) Slot.unset).toArray = ls at hl ⊢
  have hl : lv_has ls 9 [(0, .ref b)] := hl
  refine va_new (ci := 11) (fs := [.null, .null, .null, .null, .null, .null, .int 0, .int 0, .int 0, .int 0]) (C := RX12) (T := TX12) (N := 10) hx hb hts iX12 tyX12 tyX12_ok hown (hts _ qcs_L_8) (hts _ qit_X12) (hts _ qini_X12) hK hP hD hS hA rfl (by decide) (by rw [eR]; exact Nat.le_of_ble_eq_true rfl) (by rw [eR]; exact Nat.le_of_ble_eq_true rfl) dL_law_0 (fun q1 H hP hD hS => ?_)
  refine lv_dup hx hb dL_law_3 rfl ?_
  refine nCall (a := ([] : va_W)) (nRunI (rest := [.ref q1]) ⟨hx, hb, hml, hown, hts⟩ (nX12_init l D cA an ad q1 _) qco_X12_init qml_L_174 qin_X12_init qini_X12 (by decide +kernel) rfl (by rw [eR]; rfl) hN hNE hS hA hK hP hD rfl hl.1 rfl (lv_room (Nat.le_of_ble_eq_true rfl)) dL_law_4 ⟨by rw [eR]; exact Nat.le_of_ble_eq_true rfl, by rw [eR]; exact Nat.le_of_ble_eq_true rfl⟩) hP hD hS hA (fun u pu H locs hP hD hS => ?_)
  refine lv_astore_n (lv' := [(1, .ref q1), (0, .ref b)]) hx hb dL_law_7 rfl hl (by decide) rfl (fun ls hl => ?_)
  refine va_new (ci := 12) (fs := [.null, .null, .null, .int 0, .null, .int 0, .null, .int 0, .int 0, .int 0, .null, .int 0, .int 0, .int 0, .int 0, .null]) (C := RX13) (T := TX13) (N := 16) hx hb hts iX13 tyX13 tyX13_ok hown (hts _ qcs_L_175) (hts _ qit_X13) (hts _ qini_X13) hK hP hD hS hA rfl (by decide) (by rw [eR]; exact Nat.le_of_ble_eq_true rfl) (by rw [eR]; exact Nat.le_of_ble_eq_true rfl) dL_law_8 (fun q2 H hP hD hS => ?_)
  refine lv_dup hx hb dL_law_11 rfl ?_
  refine nCall (nRunI (rest := [.ref q2]) ⟨hx, hb, hml, hown, hts⟩ (nX13_init l D cA an ad q2 _) qco_X13_init qml_L_177 qin_X13_init qini_X13 (by decide +kernel) rfl (by rw [eR]; rfl) hN hNE hS hA hK hP hD rfl hl.1 rfl (lv_room (Nat.le_of_ble_eq_true rfl)) dL_law_12 ⟨by rw [eR]; exact Nat.le_of_ble_eq_true rfl, by rw [eR]; exact Nat.le_of_ble_eq_true rfl⟩) hP hD hS hA (fun w pw H locs hP hD hS => ?_)
  refine lv_astore_n (lv' := [(2, .ref q2), (1, .ref q1), (0, .ref b)]) hx hb dL_law_15 rfl hl (by decide) rfl (fun ls hl => ?_)
  refine lv_iconst (v := 1) hx hb dL_law_16 (by decide) ?_
  refine nNewa (atype := .long) (ty := .long) hx hb (hts _ qar_long) rfl 2 (c0 := cA 2) rfl nRAl hK hP hD hS hA (N' := 1) (a0 := (1, .inr (.inl (fun _ => 0)))) (fun _ => rfl) (by decide) (by decide) (by decide) (by rw [eR]; exact Nat.le_of_ble_eq_true rfl) (by rw [eR]; exact Nat.le_of_ble_eq_true rfl) dL_law_17 (fun q3 H hP hD hS => ?_)
  refine lv_astore_n (lv' := [(3, .ref q3), (2, .ref q2), (1, .ref q1), (0, .ref b)]) hx hb dL_law_19 rfl hl (by decide) rfl (fun ls hl => ?_)
  refine lv_iconst (v := 1) hx hb dL_law_20 (by decide) ?_
  refine nNewa (atype := .double) (ty := .double) hx hb (hts _ qar_double) rfl 6 (c0 := cA 6) rfl nRAd hK hP hD hS hA (N' := 1) (a0 := (1, .inr (.inr (.inr (.inl (fun _ => 0)))))) (fun _ => rfl) (by decide) (by decide) (by decide) (by rw [eR]; exact Nat.le_of_ble_eq_true rfl) (by rw [eR]; exact Nat.le_of_ble_eq_true rfl) dL_law_21 (fun q4 H hP hD hS => ?_)
  refine lv_astore (lv' := [(4, .ref q4), (3, .ref q3), (2, .ref q2), (1, .ref q1), (0, .ref b)]) hx hb dL_law_23 hl (by decide) rfl (fun ls hl => ?_)
  refine lv_iconst (v := 0) hx hb dL_law_25 (by decide) ?_
  refine lv_istore (lv' := [(5, .int 0), (4, .ref q4), (3, .ref q3), (2, .ref q2), (1, .ref q1), (0, .ref b)]) hx hb dL_law_26 hl (by decide) rfl (fun ls hl => ?_)
  obtain ⟨hm, tm⟩ := w
  obtain ⟨h0, hr, t0, r0⟩ := u
  obtain ⟨e1, hRT⟩ := pu
  obtain ⟨e2, hRM⟩ := pw
  have e1 : h0 0 = q1 := e1
  have e2 : hm 0 = q2 := e2
  rw [← e1, ← e2] at hl
  have hl : lv_has ls 9 [(5, .int (iI ((0 : Nat) : Int))), (4, .ref q4), (3, .ref q3), (2, .ref (hm 0)), (1, .ref (h0 0)), (0, .ref b)] := hl
  have hW : ∀ TR : va_W, ((([] ++ TR) ++ MW cA hm tm) ++ [(q3, .inl (cA 2, 1, .inr (.inl (fun _ => 0))))]) ++ [(q4, .inl (cA 6, 1, .inr (.inr (.inr (.inl (fun _ => 0))))))] = TR ++ (MW cA hm tm ++ HA cA q3 q4 (fun _ => 0) (fun _ => 0)) := fun TR => by
    simp only [List.append_assoc, List.nil_append]
    try rfl
  have hP : va_P D vwCl ((ThlW cA ad hr h0 t0 ++ RowW cA hr r0) ++ (MW cA hm tm ++ HA cA q3 q4 (fun _ => 0) (fun _ => 0))) H := by
    rw [← hW]
    exact hP
  have hD : va_D (fun q : Nat => s.heap.size ≤ q) ((ThlW cA ad hr h0 t0 ++ RowW cA hr r0) ++ (MW cA hm tm ++ HA cA q3 q4 (fun _ => 0) (fun _ => 0))) := by
    rw [← hW]
    exact hD
  have hC9 := nPerm3 (F := ThlW cA ad hr h0 t0 ++ RowW cA hr r0) (B := MW cA hm tm) (C := HA cA q3 q4 (fun _ => 0) (fun _ => 0)) (TR_len cA ad hr h0 t0 r0) rfl rfl
  have hP9 := zCut hP _ hC9
  have hD9 := hD.sub _ nPerm3_nd hC9
  refine W.widen (k := 300) (n := 8000) (Nat.le_of_ble_eq_true rfl) (Nat.le_of_ble_eq_true rfl) ?_
  exact law_loop (hm := hm) (hr := hr) (h0 := h0) (o := q3) (od := q4) ⟨⟨hx, hb, hml, hown, hts⟩, hl9, eR, hN, hE, hV, hXK, hK, hA, hX, hbl, hbA, hL⟩ hx hb kx 512 0 rfl 0 _ _ rfl rfl rfl _ _ t0 r0 tm H _ ⟨sO0, 0, 0, hRT, hRM, wo0, Nat.le_refl _⟩ hP9 hD9 hS ls hl
end START
