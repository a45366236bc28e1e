/-! ===== the law, case by case ===== -/
abbrev LW (cA : Nat → ClassId) (ad : Nat → Nat) (hm : Nat → Nat) (hr : Nat → Nat → Nat) (h0 : Nat → Nat) (o od : Nat) (f : Nat → Int64) (g : Nat → UInt64) (sm : MS) (t : ThlS) (r : Nat → BooS) : va_W := MW cA hm sm ++ HW cA ad hr h0 o od f g t r
section LWs
variable (cA : Nat → ClassId) (ad : Nat → Nat) (hm : Nat → Nat) (hr : Nat → Nat → Nat) (h0 : Nat → Nat) (o od : Nat) (f f' : Nat → Int64) (g g' : Nat → UInt64) (sm sm' : MS) (t t' : ThlS) (r r' : Nat → BooS)
theorem HW_len : (HW cA ad hr h0 o od f g t r).length = 288 := by
  rw [List.length_append, TR_len]
  rfl
theorem HW_fst : (HW cA ad hr h0 o od f' g' t' r').map Prod.fst = (HW cA ad hr h0 o od f g t r).map Prod.fst := by
  have e1 : (HW cA ad hr h0 o od f' g' t' r').map Prod.fst = (HA cA o od f' g').map Prod.fst ++ (ThlW cA ad hr h0 t' ++ RowW cA hr r').map Prod.fst := List.map_append
  have e2 : (HW cA ad hr h0 o od f g t r).map Prod.fst = (HA cA o od f g).map Prod.fst ++ (ThlW cA ad hr h0 t ++ RowW cA hr r).map Prod.fst := List.map_append
  rw [e1, e2, TR_fst cA ad hr h0 t' t r' r]
  rfl
theorem LW_hC : (mid 8 288).map (fun i => (LW cA ad hm hr h0 o od f g sm t r)[i]?) = (HW cA ad hr h0 o od f g t r).map some := mid_C0 (A := MW cA hm sm) rfl (HW_len cA ad hr h0 o od f g t r)
theorem LW_hH : ∀ (i : Nat) (q : Nat × va_E), (LW cA ad hm hr h0 o od f' g' sm t' r')[i]? = some q → (i ∉ mid 8 288 ∧ (LW cA ad hm hr h0 o od f g sm t r)[i]? = some q) ∨ ∃ k : Nat, (mid 8 288)[k]? = some i ∧ (HW cA ad hr h0 o od f' g' t' r')[k]? = some q := mid_H0 (A := MW cA hm sm) rfl (HW_len cA ad hr h0 o od f g t r) (HW_len cA ad hr h0 o od f' g' t' r')
theorem LW_mC : (mid 0 8).map (fun i => (LW cA ad hm hr h0 o od f g sm t r)[i]?) = (MW cA hm sm).map some := mid_C (A := []) (B := MW cA hm sm) (C := HW cA ad hr h0 o od f g t r) rfl rfl
theorem LW_mH : ∀ (i : Nat) (q : Nat × va_E), (LW cA ad hm hr h0 o od f g sm' t r)[i]? = some q → (i ∉ mid 0 8 ∧ (LW cA ad hm hr h0 o od f g sm t r)[i]? = some q) ∨ ∃ k : Nat, (mid 0 8)[k]? = some i ∧ (MW cA hm sm')[k]? = some q := mid_H (A := []) (B := MW cA hm sm) (B' := MW cA hm sm') (C := HW cA ad hr h0 o od f g t r) rfl rfl rfl
theorem LW_rC : (mid 10 286).map (fun i => (LW cA ad hm hr h0 o od f g sm t r)[i]?) = (ThlW cA ad hr h0 t ++ RowW cA hr r).map some := by
  have h := mid_C0 (A := MW cA hm sm ++ HA cA o od f g) (B := ThlW cA ad hr h0 t ++ RowW cA hr r) (a := 10) (n := 286) rfl (TR_len cA ad hr h0 t r)
  rw [List.append_assoc] at h
  exact h
theorem LW_rH : ∀ (i : Nat) (q : Nat × va_E), (LW cA ad hm hr h0 o od f g sm t' r')[i]? = some q → (i ∉ mid 10 286 ∧ (LW cA ad hm hr h0 o od f g sm t r)[i]? = some q) ∨ ∃ k : Nat, (mid 10 286)[k]? = some i ∧ (ThlW cA ad hr h0 t' ++ RowW cA hr r')[k]? = some q := by
  have h := mid_H0 (A := MW cA hm sm ++ HA cA o od f g) (B := ThlW cA ad hr h0 t ++ RowW cA hr r) (B' := ThlW cA ad hr h0 t' ++ RowW cA hr r') (a := 10) (n := 286) rfl (TR_len cA ad hr h0 t r) (TR_len cA ad hr h0 t' r')
  rw [List.append_assoc, List.append_assoc] at h
  exact h
theorem LW_tC : (mid 10 61).map (fun i => (LW cA ad hm hr h0 o od f g sm t r)[i]?) = (ThlW cA ad hr h0 t).map some := by
  have h := mid_C (A := MW cA hm sm ++ HA cA o od f g) (B := ThlW cA ad hr h0 t) (C := RowW cA hr r) (a := 10) (n := 61) rfl rfl
  rw [List.append_assoc] at h
  exact h
theorem LW_tH : ∀ (i : Nat) (q : Nat × va_E), (LW cA ad hm hr h0 o od f g sm t' r)[i]? = some q → (i ∉ mid 10 61 ∧ (LW cA ad hm hr h0 o od f g sm t r)[i]? = some q) ∨ ∃ k : Nat, (mid 10 61)[k]? = some i ∧ (ThlW cA ad hr h0 t')[k]? = some q := by
  have h := mid_H (A := MW cA hm sm ++ HA cA o od f g) (B := ThlW cA ad hr h0 t) (B' := ThlW cA ad hr h0 t') (C := RowW cA hr r) (a := 10) (n := 61) rfl rfl rfl
  rw [List.append_assoc, List.append_assoc] at h
  exact h
end LWs
def LC (p : Program) (l : Launch) (R : Room) (s : State) (m : MethodId) (args : Array Value) (c : Code) (D : va_G) (cA : Nat → ClassId) (ad : Nat → Nat) (A : Nat → Prop) (b L : Nat) (xs : Nat → Int32) : Prop :=
  CallFix p m c cL_law 9 s args xW RL ∧ l.stackTraces = false ∧ R = ({ frames := 21, cells := 603072, slots := 7198826, locals := 10880 } : Room) ∧ xN s ∧ xE ad A s s.heap ∧ xV A s s.heap ∧ xK s ∧ va_K D vwCl (xT cA) s ∧ (∀ q, s.heap.size ≤ q → A q) ∧ va_X b L xs s s.heap ∧ b < s.heap.size ∧ ¬ A b ∧ L ≤ 3072
/-- what follows a case -/
def LK (p : Program) (l : Launch) (e : Env) (R : Room) (s : State) (m : MethodId) (args : Array Value) (below : List Frame) (meth : Method) (c : Code) (cells slots : Nat) (Q : State → Prop) (D : va_G) (cA : Nat → ClassId) (ad : Nat → Nat) (A : Nat → Prop) (b : Nat) (hm : Nat → Nat) (hr : Nat → Nat → Nat) (h0 : Nat → Nat) (o od i n : Nat) : Prop :=
  ∀ (f : Nat → Int64) (g : Nat → UInt64) (sm : MS) (t : ThlS) (r : Nat → BooS), IV (n + 1) t r sm → ∀ (H : Heap) (locs : List Loc), va_P D vwCl (LW cA ad hm hr h0 o od f g sm t r) H → va_D A (LW cA ad hm hr h0 o od f g sm t r) → va_S A s.heap H locs → ∀ ls : Array Slot, lv_has ls 9 [(5, .int (iI (i : Int))), (4, .ref od), (3, .ref o), (2, .ref (hm 0)), (1, .ref (h0 0)), (0, .ref b)] → W p l e R s m args below meth c H locs (cells + 3) (slots + 18) Q (F0 m 3247 ls [])
theorem lg_self (x : Int64) : lg_cmp x x = 0 := by
  unfold lg_cmp
  rw [if_neg (Int64.lt_irrefl), if_pos rfl]
theorem d_self {x : UInt64} (h : FP.Core.dIsNaN x = false) (op : CmpOp) : Op.cmpValue (FP.dcmp x x) op = 0 := by
  have e : FP.dcmp x x = some .eq := FP.Core.dcmp_self ((FP.Core.notNaN_iff x).mp h)
  rw [e]
  rfl
theorem fU_0 (f : Nat → Int64) (v : Int64) : fU 0 f v (0 : Int32).toNatClampNeg = v := by
  show (if (0 : Nat) = 0 then vp_updL f 0 v else f) 0 = v
  rw [if_pos rfl]
  exact if_pos rfl
theorem fD_0 (g : Nat → UInt64) (v : UInt64) : fD 0 g v (0 : Int32).toNatClampNeg = v := by
  show (if (0 : Nat) = 0 then vf_upd g 0 v else g) 0 = v
  rw [if_pos rfl]
  exact if_pos rfl
theorem sIx {i L j : Nat} (hi : i + 6 ≤ L) (hL : L ≤ 3072) (hj : j < 6) : vp_in (iI (i : Int) + iI (j : Int)) L ∧ (iI (i : Int) + iI (j : Int)).toNatClampNeg = i + j := by
  rw [i_add]
  have h1 := i_int (z := (i : Int) + (j : Int)) (by omega) (by omega)
  refine ⟨vp_in_iff.mpr ⟨by rw [h1]; omega, by rw [h1]; omega⟩, ?_⟩
  show (iI ((i : Int) + (j : Int))).toInt.toNat = i + j
  rw [h1]
  omega
theorem sIx1 {i L : Nat} (hi : i + 6 ≤ L) (hL : L ≤ 3072) : vp_in (iI (i : Int) + 1) L ∧ (iI (i : Int) + 1).toNatClampNeg = i + 1 := sIx (j := 1) hi hL (by decide)
theorem sIx2 {i L : Nat} (hi : i + 6 ≤ L) (hL : L ≤ 3072) : vp_in (iI (i : Int) + 2) L ∧ (iI (i : Int) + 2).toNatClampNeg = i + 2 := sIx (j := 2) hi hL (by decide)
theorem sIx3 {i L : Nat} (hi : i + 6 ≤ L) (hL : L ≤ 3072) : vp_in (iI (i : Int) + 3) L ∧ (iI (i : Int) + 3).toNatClampNeg = i + 3 := sIx (j := 3) hi hL (by decide)
theorem sIx4 {i L : Nat} (hi : i + 6 ≤ L) (hL : L ≤ 3072) : vp_in (iI (i : Int) + 4) L ∧ (iI (i : Int) + 4).toNatClampNeg = i + 4 := sIx (j := 4) hi hL (by decide)
theorem sIx5 {i L : Nat} (hi : i + 6 ≤ L) (hL : L ≤ 3072) : vp_in (iI (i : Int) + 5) L ∧ (iI (i : Int) + 5).toNatClampNeg = i + 5 := sIx (j := 5) hi hL (by decide)
section VS
variable {p : Program} {l : Launch} {e : Env} {R : Room} {s : State} {m : MethodId} {args : Array Value} {below : List Frame} {meth : Method} {c : Code} {H H0 : Heap} {locs : List Loc} {cells slots : Nat} {Q : State → Prop}
variable {cc : ByteArray} {pc : Nat} {ls : Array Slot} {A : Nat → Prop} {rest : List Value}
theorem vSld (hexec : p.tables.exec = Jvm.exec) (hb : c.code = cc) {b L : Nat} {xs : Nat → Int32} (hX : va_X b L xs s H0) (hbl : b < H0.size) (hbA : ¬ A b) (hS : va_S A H0 H locs) {i : Int32} {k : Nat} (hin : vp_in i L ∧ i.toNatClampNeg = k) (hdg : decode cc pc = .ok (.iaload, 1))
    (kk : W p l e R s m args below meth c H locs cells slots Q (F0 m (pc + 1) ls (.int (xs k) :: rest))) : W p l e R s m args below meth c H locs cells slots Q (F0 m pc ls (.int i :: .ref b :: rest)) := by
  obtain ⟨h1, rfl⟩ := hin
  exact va_sld hexec hb hX hbl hbA hS h1 hdg kk
end VS
section CASES
variable {p : Program} {l : Launch} {e : Env} {R : Room} {s : State} {m : MethodId} {args : Array Value} {below : List Frame} {meth : Method} {c : Code} {H : Heap} {locs : List Loc} {cells slots : Nat} {Q : State → Prop}
variable {ls : Array Slot} {D : va_G} {cA : Nat → ClassId} {ad : Nat → Nat} {A : Nat → Prop} {b L : Nat} {xs : Nat → Int32} {hm : Nat → Nat} {hr : Nat → Nat → Nat} {h0 : Nat → Nat} {o od N i n : Nat} {f : Nat → Int64} {g : Nat → UInt64} {s0 : ThlS} {s1 : Nat → BooS} {sm : MS}
set_option maxRecDepth 100000 in
set_option maxHeartbeats 4000000 in
theorem v_open (C : LC p l R s m args c D cA ad A b L xs) (hN : 2000 ≤ N) (hi : i + 6 ≤ L) (hI : IV n s0 s1 sm) (hn : n + 1 ≤ 512) (hcl : cells + 3 ≤ 603072) (hsl : slots + 18 ≤ 7198826) (hP : va_P D vwCl (LW cA ad hm hr h0 o od f g sm s0 s1) H) (hD : va_D A (LW cA ad hm hr h0 o od f g sm s0 s1)) (hS : va_S A s.heap H locs) (hl : lv_has ls 9 [(5, .int (iI (i : Int))), (4, .ref od), (3, .ref o), (2, .ref (hm 0)), (1, .ref (h0 0)), (0, .ref b)])
    (kk : LK p l e R s m args below meth c cells slots Q D cA ad A b hm hr h0 o od i n) : W p l e R s m args below meth c H locs cells slots Q (F0 m 312 ls []) := by
  obtain ⟨⟨hx, hb, hml, hown, hts⟩, hl9, eR, hN9, hE, hV, hX, hK, hA, hXs, hbl, hbA, hL9⟩ := C
  have hst := st_open (t := s0) (r := s1) (s := sm) hN hI hn (((Int32.toUInt32 (xs (i + 1))) % 65536).toInt32)
  obtain ⟨k, v, v9, t9, r9, sm9, hc9, hm9, hth, hq, hv, hI9⟩ := hst
  refine lv_aload_n hx hb dL_law_312 rfl (lv_at hl 4 rfl) ?_
  refine lv_aload_n hx hb dL_law_313 rfl (lv_at hl 5 rfl) ?_
  refine lv_iload hx hb dL_law_314 (lv_at hl 0 rfl) ?_
  refine lv_iconst (v := 1) hx hb dL_law_316 (by decide) ?_
  refine lv_iadd hx hb dL_law_317 ?_
  refine vSld hx hb hXs hbl hbA hS (k := i + 1) (sIx1 hi hL9) dL_law_318 ?_
  refine lv_i2c hx hb dL_law_319 rfl ?_
  refine lv_aload_n hx hb dL_law_320 rfl (lv_at hl 2 rfl) ?_
  refine hCall (w2 := LW cA ad hm hr h0 o od (fU k f v.toInt64) g sm t9 r9) (hRunS (n := 3) (As := [.ref (h0 0), .int (((Int32.toUInt32 (xs (i + 1))) % 65536).toInt32), .ref o]) (rest := []) ⟨hx, hb, hml, hown, hts⟩ (h_open l hl9 D cA ad hr h0 o od _ N ((((Int32.toUInt32 (xs (i + 1))) % 65536).toInt32)) f g s0 s1 k v t9 r9 hc9 hq) qcw_L_open qml_L_178 qst_L_open qini_L (by decide +kernel) (by rw [eR]; rfl) hN9 hE hV hX hS hA hK hP hD (mid 8 288) (LW_hC _ _ _ _ _ _ _ _ _ _ _ _) (mid_nd _ _) rfl rfl hl.1 rfl (lv_room (Nat.le_of_ble_eq_true rfl)) dL_law_321 ⟨by rw [eR]; show cells + 1 ≤ 603072; omega, by rw [eR]; show slots + 6 ≤ 7198826; omega⟩) hP hD hS hA (mid 8 288) (LW_hC _ _ _ _ _ _ _ _ _ _ _ _) (HW_fst _ _ _ _ _ _ _ _ _ _ _ _ _ _) (LW_hH _ _ _ _ _ _ _ _ _ _ _ _ _ _ _ _) (fun H locs hP hD hS => ?_)
  refine lv_istore (lv' := [(6, .int (iI (lawC [3, 4] k : Int))), (5, .int (iI (i : Int))), (4, .ref od), (3, .ref o), (2, .ref (hm 0)), (1, .ref (h0 0)), (0, .ref b)]) hx hb dL_law_324 hl (by decide) rfl (fun ls hl => ?_)
  refine lv_aload_n hx hb dL_law_326 rfl (lv_at hl 4 rfl) ?_
  refine lv_aload_n hx hb dL_law_327 rfl (lv_at hl 6 rfl) ?_
  refine lv_iload hx hb dL_law_328 (lv_at hl 1 rfl) ?_
  refine lv_iconst (v := 1) hx hb dL_law_330 (by decide) ?_
  refine lv_iadd hx hb dL_law_331 ?_
  refine vSld hx hb hXs hbl hbA hS (k := i + 1) (sIx1 hi hL9) dL_law_332 ?_
  refine lv_i2c hx hb dL_law_333 rfl ?_
  refine xCallH (w2 := LW cA ad hm hr h0 o od (fU k f v.toInt64) g sm9 t9 r9) (xRunV (n := 1) (As := [.int (((Int32.toUInt32 (xs (i + 1))) % 65536).toInt32)]) (rest := []) ⟨hx, hb, hml, hown, hts⟩ (kX13_open l D cA hm _ N ((((Int32.toUInt32 (xs (i + 1))) % 65536).toInt32)) sm (v9, sm9) hm9) qco_X13_open qml_L_183 qin_X13_open qse_X13_open qini_X13 (by decide +kernel) (by rw [eR]; rfl) hK hP hD (mid 0 8) (LW_mC _ _ _ _ _ _ _ _ _ _ _ _) (mid_nd _ _) (q0 := 0) rfl rfl rfl rfl rfl hl.1 rfl (lv_room (Nat.le_of_ble_eq_true rfl)) dL_law_334 ⟨by rw [eR]; show cells + 1 ≤ 603072; omega, by rw [eR]; show slots + 6 ≤ 7198826; omega⟩) hP hD hS hA (mid 0 8) (LW_mC _ _ _ _ _ _ _ _ _ _ _ _) rfl (LW_mH _ _ _ _ _ _ _ _ _ _ _ _ _) (fun H locs hP hD hS => ?_)
  refine lv_istore (lv' := [(7, .int v9), (6, .int (iI (lawC [3, 4] k : Int))), (5, .int (iI (i : Int))), (4, .ref od), (3, .ref o), (2, .ref (hm 0)), (1, .ref (h0 0)), (0, .ref b)]) hx hb dL_law_337 hl (by decide) rfl (fun ls hl => ?_)
  refine lv_aload_n hx hb dL_law_339 rfl (lv_at hl 5 rfl) ?_
  refine xCallH (w2 := LW cA ad hm hr h0 o od (fU k f v.toInt64) g sm9 t9 r9) (xRunV (n := 0) (As := []) (rest := []) ⟨hx, hb, hml, hown, hts⟩ (kX13_thrown l D cA hm _ N sm9 _ rfl) qco_X13_thrown qml_L_184 qin_X13_thrown qse_X13_thrown qini_X13 (by decide +kernel) (by rw [eR]; rfl) hK hP hD (mid 0 8) (LW_mC _ _ _ _ _ _ _ _ _ _ _ _) (mid_nd _ _) (q0 := 0) rfl rfl rfl rfl rfl hl.1 rfl (lv_room (Nat.le_of_ble_eq_true rfl)) dL_law_340 ⟨by rw [eR]; show cells + 1 ≤ 603072; omega, by rw [eR]; show slots + 6 ≤ 7198826; omega⟩) hP hD hS hA (mid 0 8) (LW_mC _ _ _ _ _ _ _ _ _ _ _ _) rfl (LW_mH _ _ _ _ _ _ _ _ _ _ _ _ _) (fun H locs hP hD hS => ?_)
  refine lv_iload hx hb dL_law_343 (lv_at hl 1 rfl) ?_
  refine lv_icmp_eq (tgt := 350) hx hb dL_law_345 (by decide) (fun _ => ?_) (fun c9 => absurd hth c9)
  refine lv_iload hx hb dL_law_350 (lv_at hl 1 rfl) ?_
  refine lv_if_ne (tgt := 367) hx hb dL_law_352 (by decide) (fun c9 => ?_) (fun c9 => ?_)
  · refine lv_goto (tgt := 3247) hx hb dL_law_367 (by decide) ?_
    refine W.widen (k := cells + 3) (n := slots + 18) (by omega) (by omega) ?_
    exact kk _ _ _ _ _ hI9 _ _ hP hD hS _ (lv_sub hl [2, 3, 4, 5, 6, 7] rfl)
  · have hk : k = 0 := Classical.byContradiction fun hk => lawC_nz hk (by decide) c9
    subst hk
    have hvv := hv rfl
    subst hvv
    refine lv_aload_n hx hb dL_law_355 rfl (lv_at hl 4 rfl) ?_
    refine lv_iconst (v := 0) hx hb dL_law_356 (by decide) ?_
    refine va_lald hx hb hK hP 8 2 rfl rfl (x_lit (n := 1) (k := 0) (by decide)).1 dL_law_357 ?_
    rw [fU_0]
    refine lv_iload hx hb dL_law_358 (lv_at hl 0 rfl) ?_
    refine lv_i2l (v := v.toInt64) hx hb dL_law_360 rfl ?_
    refine W.lcmp hx hb dL_law_361 ?_
    rw [lg_self]
    refine lv_if_eq (tgt := 367) hx hb dL_law_362 (by decide) (fun _ => ?_) (fun c9 => absurd rfl c9)
    refine lv_goto (tgt := 3247) hx hb dL_law_367 (by decide) ?_
    refine W.widen (k := cells + 3) (n := slots + 18) (by omega) (by omega) ?_
    exact kk _ _ _ _ _ hI9 _ _ hP hD hS _ (lv_sub hl [2, 3, 4, 5, 6, 7] rfl)
set_option maxRecDepth 100000 in
set_option maxHeartbeats 4000000 in
theorem v_openBelow (C : LC p l R s m args c D cA ad A b L xs) (hN : 2000 ≤ N) (hi : i + 6 ≤ L) (hI : IV n s0 s1 sm) (hn : n + 1 ≤ 512) (hcl : cells + 3 ≤ 603072) (hsl : slots + 18 ≤ 7198826) (hP : va_P D vwCl (LW cA ad hm hr h0 o od f g sm s0 s1) H) (hD : va_D A (LW cA ad hm hr h0 o od f g sm s0 s1)) (hS : va_S A s.heap H locs) (hl : lv_has ls 9 [(5, .int (iI (i : Int))), (4, .ref od), (3, .ref o), (2, .ref (hm 0)), (1, .ref (h0 0)), (0, .ref b)])
    (kk : LK p l e R s m args below meth c cells slots Q D cA ad A b hm hr h0 o od i n) : W p l e R s m args below meth c H locs cells slots Q (F0 m 370 ls []) := by
  obtain ⟨⟨hx, hb, hml, hown, hts⟩, hl9, eR, hN9, hE, hV, hX, hK, hA, hXs, hbl, hbA, hL9⟩ := C
  have hst := st_openBelow (t := s0) (r := s1) (s := sm) hN hI hn (xs (i + 1))
  obtain ⟨k, v, v9, t9, r9, sm9, hc9, hm9, hth, hq, hv, hI9⟩ := hst
  refine lv_aload_n hx hb dL_law_370 rfl (lv_at hl 4 rfl) ?_
  refine lv_aload_n hx hb dL_law_371 rfl (lv_at hl 5 rfl) ?_
  refine lv_iload hx hb dL_law_372 (lv_at hl 0 rfl) ?_
  refine lv_iconst (v := 1) hx hb dL_law_374 (by decide) ?_
  refine lv_iadd hx hb dL_law_375 ?_
  refine vSld hx hb hXs hbl hbA hS (k := i + 1) (sIx1 hi hL9) dL_law_376 ?_
  refine lv_aload_n hx hb dL_law_377 rfl (lv_at hl 2 rfl) ?_
  refine hCall (w2 := LW cA ad hm hr h0 o od (fU k f v.toInt64) g sm t9 r9) (hRunS (n := 3) (As := [.ref (h0 0), .int (xs (i + 1)), .ref o]) (rest := []) ⟨hx, hb, hml, hown, hts⟩ (h_openBelow l hl9 D cA ad hr h0 o od _ N ((xs (i + 1))) f g s0 s1 k v t9 r9 hc9 hq) qcw_L_openBelow qml_L_187 qst_L_openBelow qini_L (by decide +kernel) (by rw [eR]; rfl) hN9 hE hV hX hS hA hK hP hD (mid 8 288) (LW_hC _ _ _ _ _ _ _ _ _ _ _ _) (mid_nd _ _) rfl rfl hl.1 rfl (lv_room (Nat.le_of_ble_eq_true rfl)) dL_law_378 ⟨by rw [eR]; show cells + 1 ≤ 603072; omega, by rw [eR]; show slots + 6 ≤ 7198826; omega⟩) hP hD hS hA (mid 8 288) (LW_hC _ _ _ _ _ _ _ _ _ _ _ _) (HW_fst _ _ _ _ _ _ _ _ _ _ _ _ _ _) (LW_hH _ _ _ _ _ _ _ _ _ _ _ _ _ _ _ _) (fun H locs hP hD hS => ?_)
  refine lv_istore (lv' := [(6, .int (iI (lawC [1, 4] k : Int))), (5, .int (iI (i : Int))), (4, .ref od), (3, .ref o), (2, .ref (hm 0)), (1, .ref (h0 0)), (0, .ref b)]) hx hb dL_law_381 hl (by decide) rfl (fun ls hl => ?_)
  refine lv_aload_n hx hb dL_law_383 rfl (lv_at hl 4 rfl) ?_
  refine lv_aload_n hx hb dL_law_384 rfl (lv_at hl 6 rfl) ?_
  refine lv_iload hx hb dL_law_385 (lv_at hl 1 rfl) ?_
  refine lv_iconst (v := 1) hx hb dL_law_387 (by decide) ?_
  refine lv_iadd hx hb dL_law_388 ?_
  refine vSld hx hb hXs hbl hbA hS (k := i + 1) (sIx1 hi hL9) dL_law_389 ?_
  refine xCallH (w2 := LW cA ad hm hr h0 o od (fU k f v.toInt64) g sm9 t9 r9) (xRunV (n := 1) (As := [.int (xs (i + 1))]) (rest := []) ⟨hx, hb, hml, hown, hts⟩ (kX13_openBelow l D cA hm _ N ((xs (i + 1))) sm (v9, sm9) hm9) qco_X13_openBelow qml_L_190 qin_X13_openBelow qse_X13_openBelow qini_X13 (by decide +kernel) (by rw [eR]; rfl) hK hP hD (mid 0 8) (LW_mC _ _ _ _ _ _ _ _ _ _ _ _) (mid_nd _ _) (q0 := 0) rfl rfl rfl rfl rfl hl.1 rfl (lv_room (Nat.le_of_ble_eq_true rfl)) dL_law_390 ⟨by rw [eR]; show cells + 1 ≤ 603072; omega, by rw [eR]; show slots + 6 ≤ 7198826; omega⟩) hP hD hS hA (mid 0 8) (LW_mC _ _ _ _ _ _ _ _ _ _ _ _) rfl (LW_mH _ _ _ _ _ _ _ _ _ _ _ _ _) (fun H locs hP hD hS => ?_)
  refine lv_istore (lv' := [(7, .int v9), (6, .int (iI (lawC [1, 4] k : Int))), (5, .int (iI (i : Int))), (4, .ref od), (3, .ref o), (2, .ref (hm 0)), (1, .ref (h0 0)), (0, .ref b)]) hx hb dL_law_393 hl (by decide) rfl (fun ls hl => ?_)
  refine lv_aload_n hx hb dL_law_395 rfl (lv_at hl 5 rfl) ?_
  refine xCallH (w2 := LW cA ad hm hr h0 o od (fU k f v.toInt64) g sm9 t9 r9) (xRunV (n := 0) (As := []) (rest := []) ⟨hx, hb, hml, hown, hts⟩ (kX13_thrown l D cA hm _ N sm9 _ rfl) qco_X13_thrown qml_L_184 qin_X13_thrown qse_X13_thrown qini_X13 (by decide +kernel) (by rw [eR]; rfl) hK hP hD (mid 0 8) (LW_mC _ _ _ _ _ _ _ _ _ _ _ _) (mid_nd _ _) (q0 := 0) rfl rfl rfl rfl rfl hl.1 rfl (lv_room (Nat.le_of_ble_eq_true rfl)) dL_law_396 ⟨by rw [eR]; show cells + 1 ≤ 603072; omega, by rw [eR]; show slots + 6 ≤ 7198826; omega⟩) hP hD hS hA (mid 0 8) (LW_mC _ _ _ _ _ _ _ _ _ _ _ _) rfl (LW_mH _ _ _ _ _ _ _ _ _ _ _ _ _) (fun H locs hP hD hS => ?_)
  refine lv_iload hx hb dL_law_399 (lv_at hl 1 rfl) ?_
  refine lv_icmp_eq (tgt := 406) hx hb dL_law_401 (by decide) (fun _ => ?_) (fun c9 => absurd hth c9)
  refine lv_iload hx hb dL_law_406 (lv_at hl 1 rfl) ?_
  refine lv_if_ne (tgt := 423) hx hb dL_law_408 (by decide) (fun c9 => ?_) (fun c9 => ?_)
  · refine lv_goto (tgt := 3247) hx hb dL_law_423 (by decide) ?_
    refine W.widen (k := cells + 3) (n := slots + 18) (by omega) (by omega) ?_
    exact kk _ _ _ _ _ hI9 _ _ hP hD hS _ (lv_sub hl [2, 3, 4, 5, 6, 7] rfl)
  · have hk : k = 0 := Classical.byContradiction fun hk => lawC_nz hk (by decide) c9
    subst hk
    have hvv := hv rfl
    subst hvv
    refine lv_aload_n hx hb dL_law_411 rfl (lv_at hl 4 rfl) ?_
    refine lv_iconst (v := 0) hx hb dL_law_412 (by decide) ?_
    refine va_lald hx hb hK hP 8 2 rfl rfl (x_lit (n := 1) (k := 0) (by decide)).1 dL_law_413 ?_
    rw [fU_0]
    refine lv_iload hx hb dL_law_414 (lv_at hl 0 rfl) ?_
    refine lv_i2l (v := v.toInt64) hx hb dL_law_416 rfl ?_
    refine W.lcmp hx hb dL_law_417 ?_
    rw [lg_self]
    refine lv_if_eq (tgt := 423) hx hb dL_law_418 (by decide) (fun _ => ?_) (fun c9 => absurd rfl c9)
    refine lv_goto (tgt := 3247) hx hb dL_law_423 (by decide) ?_
    refine W.widen (k := cells + 3) (n := slots + 18) (by omega) (by omega) ?_
    exact kk _ _ _ _ _ hI9 _ _ hP hD hS _ (lv_sub hl [2, 3, 4, 5, 6, 7] rfl)
set_option maxRecDepth 100000 in
set_option maxHeartbeats 4000000 in
theorem v_curtain (C : LC p l R s m args c D cA ad A b L xs) (hN : 2000 ≤ N) (hi : i + 6 ≤ L) (hI : IV n s0 s1 sm) (hn : n + 1 ≤ 512) (hcl : cells + 3 ≤ 603072) (hsl : slots + 18 ≤ 7198826) (hP : va_P D vwCl (LW cA ad hm hr h0 o od f g sm s0 s1) H) (hD : va_D A (LW cA ad hm hr h0 o od f g sm s0 s1)) (hS : va_S A s.heap H locs) (hl : lv_has ls 9 [(5, .int (iI (i : Int))), (4, .ref od), (3, .ref o), (2, .ref (hm 0)), (1, .ref (h0 0)), (0, .ref b)])
    (kk : LK p l e R s m args below meth c cells slots Q D cA ad A b hm hr h0 o od i n) : W p l e R s m args below meth c H locs cells slots Q (F0 m 1026 ls []) := by
  obtain ⟨⟨hx, hb, hml, hown, hts⟩, hl9, eR, hN9, hE, hV, hX, hK, hA, hXs, hbl, hbA, hL9⟩ := C
  have hst := st_curtain (t := s0) (r := s1) (s := sm) hN hI hn
  obtain ⟨v, t9, r9, sm9, hc9, hm9, hI9⟩ := hst
  refine lv_aload_n hx hb dL_law_1026 rfl (lv_at hl 4 rfl) ?_
  refine xCallH (w2 := LW cA ad hm hr h0 o od f g sm t9 r9) (zRunV (n := 0) (As := []) (rest := []) ⟨hx, hb, hml, hown, hts⟩ (kX12_curtain l D cA ad hr h0 _ N s0 s1 (v, t9, r9) hc9) qco_X12_curtain qml_L_221 qin_X12_curtain qse_X12_curtain qini_X12 (by decide +kernel) (by rw [eR]; rfl) hN9 hE hS hA hK hP hD (mid 10 286) (LW_rC _ _ _ _ _ _ _ _ _ _ _ _) (mid_nd _ _) (q0 := 0) rfl rfl rfl rfl rfl hl.1 rfl (lv_room (Nat.le_of_ble_eq_true rfl)) dL_law_1027 ⟨by rw [eR]; show cells + 0 ≤ 603072; omega, by rw [eR]; show slots + 0 ≤ 7198826; omega⟩) hP hD hS hA (mid 10 286) (LW_rC _ _ _ _ _ _ _ _ _ _ _ _) (TR_fst _ _ _ _ _ _ _ _) (LW_rH _ _ _ _ _ _ _ _ _ _ _ _ _ _) (fun H locs hP hD hS => ?_)
  refine lv_aload_n hx hb dL_law_1030 rfl (lv_at hl 3 rfl) ?_
  refine xCallH (w2 := LW cA ad hm hr h0 o od f g sm9 t9 r9) (xRunV (n := 0) (As := []) (rest := [.int v]) ⟨hx, hb, hml, hown, hts⟩ (kX13_curtain l D cA hm _ N sm (v, sm9) hm9) qco_X13_curtain qml_L_224 qin_X13_curtain qse_X13_curtain qini_X13 (by decide +kernel) (by rw [eR]; rfl) hK hP hD (mid 0 8) (LW_mC _ _ _ _ _ _ _ _ _ _ _ _) (mid_nd _ _) (q0 := 0) rfl rfl rfl rfl rfl hl.1 rfl (lv_room (Nat.le_of_ble_eq_true rfl)) dL_law_1031 ⟨by rw [eR]; show cells + 0 ≤ 603072; omega, by rw [eR]; show slots + 0 ≤ 7198826; omega⟩) hP hD hS hA (mid 0 8) (LW_mC _ _ _ _ _ _ _ _ _ _ _ _) rfl (LW_mH _ _ _ _ _ _ _ _ _ _ _ _ _) (fun H locs hP hD hS => ?_)
  refine lv_icmp_eq (tgt := 3247) hx hb dL_law_1034 (by decide) (fun _ => ?_) (fun c9 => absurd rfl c9)
  refine W.widen (k := cells + 3) (n := slots + 18) (by omega) (by omega) ?_
  exact kk _ _ _ _ _ hI9 _ _ hP hD hS _ (lv_sub hl [0, 1, 2, 3, 4, 5] rfl)
set_option maxRecDepth 100000 in
set_option maxHeartbeats 4000000 in
theorem v_debits (C : LC p l R s m args c D cA ad A b L xs) (hN : 2000 ≤ N) (hi : i + 6 ≤ L) (hI : IV n s0 s1 sm) (hn : n + 1 ≤ 512) (hcl : cells + 3 ≤ 603072) (hsl : slots + 18 ≤ 7198826) (hP : va_P D vwCl (LW cA ad hm hr h0 o od f g sm s0 s1) H) (hD : va_D A (LW cA ad hm hr h0 o od f g sm s0 s1)) (hS : va_S A s.heap H locs) (hl : lv_has ls 9 [(5, .int (iI (i : Int))), (4, .ref od), (3, .ref o), (2, .ref (hm 0)), (1, .ref (h0 0)), (0, .ref b)])
    (kk : LK p l e R s m args below meth c cells slots Q D cA ad A b hm hr h0 o od i n) : W p l e R s m args below meth c H locs cells slots Q (F0 m 1177 ls []) := by
  obtain ⟨⟨hx, hb, hml, hown, hts⟩, hl9, eR, hN9, hE, hV, hX, hK, hA, hXs, hbl, hbA, hL9⟩ := C
  have hst := st_debits (t := s0) (r := s1) (s := sm) hN hI hn (xs (i + 1))
  obtain ⟨k, v, v9, sm9, hc9, hm9, hth, hq, hv, hI9⟩ := hst
  refine lv_aload_n hx hb dL_law_1177 rfl (lv_at hl 4 rfl) ?_
  refine lv_aload_n hx hb dL_law_1178 rfl (lv_at hl 5 rfl) ?_
  refine lv_iload hx hb dL_law_1179 (lv_at hl 0 rfl) ?_
  refine lv_iconst (v := 1) hx hb dL_law_1181 (by decide) ?_
  refine lv_iadd hx hb dL_law_1182 ?_
  refine vSld hx hb hXs hbl hbA hS (k := i + 1) (sIx1 hi hL9) dL_law_1183 ?_
  refine lv_aload_n hx hb dL_law_1184 rfl (lv_at hl 2 rfl) ?_
  refine hCall (w2 := LW cA ad hm hr h0 o od (fU k f v) g sm s0 s1) (hRunS (n := 3) (As := [.ref (h0 0), .int (xs (i + 1)), .ref o]) (rest := []) ⟨hx, hb, hml, hown, hts⟩ (h_debits l hl9 D cA ad hr h0 o od _ N ((xs (i + 1))) f g s0 s1 k v hc9 hq) qcw_L_debits qml_L_239 qst_L_debits qini_L (by decide +kernel) (by rw [eR]; rfl) hN9 hE hV hX hS hA hK hP hD (mid 8 288) (LW_hC _ _ _ _ _ _ _ _ _ _ _ _) (mid_nd _ _) rfl rfl hl.1 rfl (lv_room (Nat.le_of_ble_eq_true rfl)) dL_law_1185 ⟨by rw [eR]; show cells + 1 ≤ 603072; omega, by rw [eR]; show slots + 6 ≤ 7198826; omega⟩) hP hD hS hA (mid 8 288) (LW_hC _ _ _ _ _ _ _ _ _ _ _ _) (HW_fst _ _ _ _ _ _ _ _ _ _ _ _ _ _) (LW_hH _ _ _ _ _ _ _ _ _ _ _ _ _ _ _ _) (fun H locs hP hD hS => ?_)
  refine lv_istore (lv' := [(6, .int (iI (lawC [1] k : Int))), (5, .int (iI (i : Int))), (4, .ref od), (3, .ref o), (2, .ref (hm 0)), (1, .ref (h0 0)), (0, .ref b)]) hx hb dL_law_1188 hl (by decide) rfl (fun ls hl => ?_)
  refine lv_aload_n hx hb dL_law_1190 rfl (lv_at hl 4 rfl) ?_
  refine lv_aload_n hx hb dL_law_1191 rfl (lv_at hl 6 rfl) ?_
  refine lv_iload hx hb dL_law_1192 (lv_at hl 1 rfl) ?_
  refine lv_iconst (v := 1) hx hb dL_law_1194 (by decide) ?_
  refine lv_iadd hx hb dL_law_1195 ?_
  refine vSld hx hb hXs hbl hbA hS (k := i + 1) (sIx1 hi hL9) dL_law_1196 ?_
  refine xCallH (w2 := LW cA ad hm hr h0 o od (fU k f v) g sm9 s0 s1) (xRunV (n := 1) (As := [.int (xs (i + 1))]) (rest := []) ⟨hx, hb, hml, hown, hts⟩ (kX13_debits l D cA hm _ N ((xs (i + 1))) sm (v9, sm9) hm9) qco_X13_debits qml_L_241 qin_X13_debits qse_X13_debits qini_X13 (by decide +kernel) (by rw [eR]; rfl) hK hP hD (mid 0 8) (LW_mC _ _ _ _ _ _ _ _ _ _ _ _) (mid_nd _ _) (q0 := 0) rfl rfl rfl rfl rfl hl.1 rfl (lv_room (Nat.le_of_ble_eq_true rfl)) dL_law_1197 ⟨by rw [eR]; show cells + 1 ≤ 603072; omega, by rw [eR]; show slots + 6 ≤ 7198826; omega⟩) hP hD hS hA (mid 0 8) (LW_mC _ _ _ _ _ _ _ _ _ _ _ _) rfl (LW_mH _ _ _ _ _ _ _ _ _ _ _ _ _) (fun H locs hP hD hS => ?_)
  refine lv_lstore (lv' := [(7, .long v9), (6, .int (iI (lawC [1] k : Int))), (5, .int (iI (i : Int))), (4, .ref od), (3, .ref o), (2, .ref (hm 0)), (1, .ref (h0 0)), (0, .ref b)]) hx hb dL_law_1200 hl (by decide) rfl (fun ls hl => ?_)
  refine lv_aload_n hx hb dL_law_1202 rfl (lv_at hl 5 rfl) ?_
  refine xCallH (w2 := LW cA ad hm hr h0 o od (fU k f v) g sm9 s0 s1) (xRunV (n := 0) (As := []) (rest := []) ⟨hx, hb, hml, hown, hts⟩ (kX13_thrown l D cA hm _ N sm9 _ rfl) qco_X13_thrown qml_L_184 qin_X13_thrown qse_X13_thrown qini_X13 (by decide +kernel) (by rw [eR]; rfl) hK hP hD (mid 0 8) (LW_mC _ _ _ _ _ _ _ _ _ _ _ _) (mid_nd _ _) (q0 := 0) rfl rfl rfl rfl rfl hl.1 rfl (lv_room (Nat.le_of_ble_eq_true rfl)) dL_law_1203 ⟨by rw [eR]; show cells + 1 ≤ 603072; omega, by rw [eR]; show slots + 6 ≤ 7198826; omega⟩) hP hD hS hA (mid 0 8) (LW_mC _ _ _ _ _ _ _ _ _ _ _ _) rfl (LW_mH _ _ _ _ _ _ _ _ _ _ _ _ _) (fun H locs hP hD hS => ?_)
  refine lv_iload hx hb dL_law_1206 (lv_at hl 1 rfl) ?_
  refine lv_icmp_eq (tgt := 1213) hx hb dL_law_1208 (by decide) (fun _ => ?_) (fun c9 => absurd hth c9)
  refine lv_iload hx hb dL_law_1213 (lv_at hl 1 rfl) ?_
  refine lv_if_ne (tgt := 1229) hx hb dL_law_1215 (by decide) (fun c9 => ?_) (fun c9 => ?_)
  · refine lv_goto (tgt := 3247) hx hb dL_law_1229 (by decide) ?_
    refine W.widen (k := cells + 3) (n := slots + 18) (by omega) (by omega) ?_
    exact kk _ _ _ _ _ hI9 _ _ hP hD hS _ (lv_sub hl [2, 3, 4, 5, 6, 7] rfl)
  · have hk : k = 0 := Classical.byContradiction fun hk => lawC_nz hk (by decide) c9
    subst hk
    have hvv := hv rfl
    subst hvv
    refine lv_aload_n hx hb dL_law_1218 rfl (lv_at hl 4 rfl) ?_
    refine lv_iconst (v := 0) hx hb dL_law_1219 (by decide) ?_
    refine va_lald hx hb hK hP 8 2 rfl rfl (x_lit (n := 1) (k := 0) (by decide)).1 dL_law_1220 ?_
    rw [fU_0]
    refine lv_lload hx hb dL_law_1221 (lv_at hl 0 rfl) ?_
    refine W.lcmp hx hb dL_law_1223 ?_
    rw [lg_self]
    refine lv_if_eq (tgt := 1229) hx hb dL_law_1224 (by decide) (fun _ => ?_) (fun c9 => absurd rfl c9)
    refine lv_goto (tgt := 3247) hx hb dL_law_1229 (by decide) ?_
    refine W.widen (k := cells + 3) (n := slots + 18) (by omega) (by omega) ?_
    exact kk _ _ _ _ _ hI9 _ _ hP hD hS _ (lv_sub hl [2, 3, 4, 5, 6, 7] rfl)
set_option maxRecDepth 100000 in
set_option maxHeartbeats 4000000 in
theorem v_sumOfDebits (C : LC p l R s m args c D cA ad A b L xs) (hN : 2000 ≤ N) (hi : i + 6 ≤ L) (hI : IV n s0 s1 sm) (hn : n + 1 ≤ 512) (hcl : cells + 3 ≤ 603072) (hsl : slots + 18 ≤ 7198826) (hP : va_P D vwCl (LW cA ad hm hr h0 o od f g sm s0 s1) H) (hD : va_D A (LW cA ad hm hr h0 o od f g sm s0 s1)) (hS : va_S A s.heap H locs) (hl : lv_has ls 9 [(5, .int (iI (i : Int))), (4, .ref od), (3, .ref o), (2, .ref (hm 0)), (1, .ref (h0 0)), (0, .ref b)])
    (kk : LK p l e R s m args below meth c cells slots Q D cA ad A b hm hr h0 o od i n) : W p l e R s m args below meth c H locs cells slots Q (F0 m 1508 ls []) := by
  obtain ⟨⟨hx, hb, hml, hown, hts⟩, hl9, eR, hN9, hE, hV, hX, hK, hA, hXs, hbl, hbA, hL9⟩ := C
  have hst := st_sumOfDebits (t := s0) (r := s1) (s := sm) hN hI hn
  obtain ⟨v, sm9, hc9, hm9, hI9⟩ := hst
  refine lv_aload_n hx hb dL_law_1508 rfl (lv_at hl 4 rfl) ?_
  refine xCallH (w2 := LW cA ad hm hr h0 o od f g sm s0 s1) (zRunV (n := 0) (As := []) (rest := []) ⟨hx, hb, hml, hown, hts⟩ (kX12_sumOfDebits l D cA ad hr h0 _ N s0 v hc9) qco_X12_sumOfDebits qml_L_257 qin_X12_sumOfDebits qse_X12_sumOfDebits qini_X12 (by decide +kernel) (by rw [eR]; rfl) hN9 hE hS hA hK hP hD (mid 10 61) (LW_tC _ _ _ _ _ _ _ _ _ _ _ _) (mid_nd _ _) (q0 := 0) rfl rfl rfl rfl rfl hl.1 rfl (lv_room (Nat.le_of_ble_eq_true rfl)) dL_law_1509 ⟨by rw [eR]; show cells + 0 ≤ 603072; omega, by rw [eR]; show slots + 0 ≤ 7198826; omega⟩) hP hD hS hA (mid 10 61) (LW_tC _ _ _ _ _ _ _ _ _ _ _ _) rfl (LW_tH _ _ _ _ _ _ _ _ _ _ _ _ _) (fun H locs hP hD hS => ?_)
  refine lv_aload_n hx hb dL_law_1512 rfl (lv_at hl 3 rfl) ?_
  refine xCallH (w2 := LW cA ad hm hr h0 o od f g sm9 s0 s1) (xRunV (n := 0) (As := []) (rest := [.long v]) ⟨hx, hb, hml, hown, hts⟩ (kX13_sumOfDebits l D cA hm _ N sm (v, sm9) hm9) qco_X13_sumOfDebits qml_L_261 qin_X13_sumOfDebits qse_X13_sumOfDebits qini_X13 (by decide +kernel) (by rw [eR]; rfl) hK hP hD (mid 0 8) (LW_mC _ _ _ _ _ _ _ _ _ _ _ _) (mid_nd _ _) (q0 := 0) rfl rfl rfl rfl rfl hl.1 rfl (lv_room (Nat.le_of_ble_eq_true rfl)) dL_law_1513 ⟨by rw [eR]; show cells + 0 ≤ 603072; omega, by rw [eR]; show slots + 0 ≤ 7198826; omega⟩) hP hD hS hA (mid 0 8) (LW_mC _ _ _ _ _ _ _ _ _ _ _ _) rfl (LW_mH _ _ _ _ _ _ _ _ _ _ _ _ _) (fun H locs hP hD hS => ?_)
  refine W.lcmp hx hb dL_law_1516 ?_
  rw [lg_self]
  refine lv_if_eq (tgt := 3247) hx hb dL_law_1517 (by decide) (fun _ => ?_) (fun c9 => absurd rfl c9)
  refine W.widen (k := cells + 3) (n := slots + 18) (by omega) (by omega) ?_
  exact kk _ _ _ _ _ hI9 _ _ hP hD hS _ (lv_sub hl [0, 1, 2, 3, 4, 5] rfl)
set_option maxRecDepth 100000 in
set_option maxHeartbeats 4000000 in
theorem v_meanPrice (C : LC p l R s m args c D cA ad A b L xs) (hN : 2000 ≤ N) (hi : i + 6 ≤ L) (hI : IV n s0 s1 sm) (hn : n + 1 ≤ 512) (hcl : cells + 3 ≤ 603072) (hsl : slots + 18 ≤ 7198826) (hP : va_P D vwCl (LW cA ad hm hr h0 o od f g sm s0 s1) H) (hD : va_D A (LW cA ad hm hr h0 o od f g sm s0 s1)) (hS : va_S A s.heap H locs) (hl : lv_has ls 9 [(5, .int (iI (i : Int))), (4, .ref od), (3, .ref o), (2, .ref (hm 0)), (1, .ref (h0 0)), (0, .ref b)])
    (kk : LK p l e R s m args below meth c cells slots Q D cA ad A b hm hr h0 o od i n) : W p l e R s m args below meth c H locs cells slots Q (F0 m 2223 ls []) := by
  obtain ⟨⟨hx, hb, hml, hown, hts⟩, hl9, eR, hN9, hE, hV, hX, hK, hA, hXs, hbl, hbA, hL9⟩ := C
  obtain ⟨hst, hnan⟩ := st_meanPrice (t := s0) (r := s1) (s := sm) hN hI hn
  obtain ⟨k, v, v9, sm9, hc9, hm9, hth, hq, hv, hI9⟩ := hst
  refine lv_aload_n hx hb dL_law_2223 rfl (lv_at hl 4 rfl) ?_
  refine lv_aload hx hb dL_law_2224 (lv_at hl 1 rfl) ?_
  refine hCall (w2 := LW cA ad hm hr h0 o od f (fD k g v) sm s0 s1) (hRunS (n := 2) (As := [.ref (h0 0), .ref od]) (rest := []) ⟨hx, hb, hml, hown, hts⟩ (h_meanPrice l hl9 D cA ad hr h0 o od _ N  f g s0 s1 k v hc9 hq) qcw_L_meanPrice qml_L_319 qst_L_meanPrice qini_L (by decide +kernel) (by rw [eR]; rfl) hN9 hE hV hX hS hA hK hP hD (mid 8 288) (LW_hC _ _ _ _ _ _ _ _ _ _ _ _) (mid_nd _ _) rfl rfl hl.1 rfl (lv_room (Nat.le_of_ble_eq_true rfl)) dL_law_2226 ⟨by rw [eR]; show cells + 1 ≤ 603072; omega, by rw [eR]; show slots + 6 ≤ 7198826; omega⟩) hP hD hS hA (mid 8 288) (LW_hC _ _ _ _ _ _ _ _ _ _ _ _) (HW_fst _ _ _ _ _ _ _ _ _ _ _ _ _ _) (LW_hH _ _ _ _ _ _ _ _ _ _ _ _ _ _ _ _) (fun H locs hP hD hS => ?_)
  refine lv_istore (lv' := [(6, .int (iI (lawC [6] k : Int))), (5, .int (iI (i : Int))), (4, .ref od), (3, .ref o), (2, .ref (hm 0)), (1, .ref (h0 0)), (0, .ref b)]) hx hb dL_law_2229 hl (by decide) rfl (fun ls hl => ?_)
  refine lv_aload_n hx hb dL_law_2231 rfl (lv_at hl 4 rfl) ?_
  refine xCallH (w2 := LW cA ad hm hr h0 o od f (fD k g v) sm9 s0 s1) (xRunV (n := 0) (As := []) (rest := []) ⟨hx, hb, hml, hown, hts⟩ (kX13_meanPrice l D cA hm _ N sm (v9, sm9) hm9) qco_X13_meanPrice qml_L_322 qin_X13_meanPrice qse_X13_meanPrice qini_X13 (by decide +kernel) (by rw [eR]; rfl) hK hP hD (mid 0 8) (LW_mC _ _ _ _ _ _ _ _ _ _ _ _) (mid_nd _ _) (q0 := 0) rfl rfl rfl rfl rfl hl.1 rfl (lv_room (Nat.le_of_ble_eq_true rfl)) dL_law_2232 ⟨by rw [eR]; show cells + 1 ≤ 603072; omega, by rw [eR]; show slots + 6 ≤ 7198826; omega⟩) hP hD hS hA (mid 0 8) (LW_mC _ _ _ _ _ _ _ _ _ _ _ _) rfl (LW_mH _ _ _ _ _ _ _ _ _ _ _ _ _) (fun H locs hP hD hS => ?_)
  refine lv_dstore (lv' := [(7, .double v9), (6, .int (iI (lawC [6] k : Int))), (5, .int (iI (i : Int))), (4, .ref od), (3, .ref o), (2, .ref (hm 0)), (1, .ref (h0 0)), (0, .ref b)]) hx hb dL_law_2235 hl (by decide) rfl (fun ls hl => ?_)
  refine lv_aload_n hx hb dL_law_2237 rfl (lv_at hl 5 rfl) ?_
  refine xCallH (w2 := LW cA ad hm hr h0 o od f (fD k g v) sm9 s0 s1) (xRunV (n := 0) (As := []) (rest := []) ⟨hx, hb, hml, hown, hts⟩ (kX13_thrown l D cA hm _ N sm9 _ rfl) qco_X13_thrown qml_L_184 qin_X13_thrown qse_X13_thrown qini_X13 (by decide +kernel) (by rw [eR]; rfl) hK hP hD (mid 0 8) (LW_mC _ _ _ _ _ _ _ _ _ _ _ _) (mid_nd _ _) (q0 := 0) rfl rfl rfl rfl rfl hl.1 rfl (lv_room (Nat.le_of_ble_eq_true rfl)) dL_law_2238 ⟨by rw [eR]; show cells + 1 ≤ 603072; omega, by rw [eR]; show slots + 6 ≤ 7198826; omega⟩) hP hD hS hA (mid 0 8) (LW_mC _ _ _ _ _ _ _ _ _ _ _ _) rfl (LW_mH _ _ _ _ _ _ _ _ _ _ _ _ _) (fun H locs hP hD hS => ?_)
  refine lv_iload hx hb dL_law_2241 (lv_at hl 1 rfl) ?_
  refine lv_icmp_eq (tgt := 2248) hx hb dL_law_2243 (by decide) (fun _ => ?_) (fun c9 => absurd hth c9)
  refine lv_iload hx hb dL_law_2248 (lv_at hl 1 rfl) ?_
  refine lv_if_ne (tgt := 2285) hx hb dL_law_2250 (by decide) (fun c9 => ?_) (fun c9 => ?_)
  · refine lv_goto (tgt := 3247) hx hb dL_law_2285 (by decide) ?_
    refine W.widen (k := cells + 3) (n := slots + 18) (by omega) (by omega) ?_
    exact kk _ _ _ _ _ hI9 _ _ hP hD hS _ (lv_sub hl [2, 3, 4, 5, 6, 7] rfl)
  · have hk : k = 0 := Classical.byContradiction fun hk => lawC_nz hk (by decide) c9
    subst hk
    have hvv := hv rfl
    subst hvv
    refine lv_aload hx hb dL_law_2253 (lv_at hl 3 rfl) ?_
    refine lv_iconst (v := 0) hx hb dL_law_2255 (by decide) ?_
    refine va_dald hx hb hK hP 9 6 rfl rfl (x_lit (n := 1) (k := 0) (by decide)).1 dL_law_2256 ?_
    rw [fD_0]
    refine lv_dload hx hb dL_law_2257 (lv_at hl 0 rfl) ?_
    refine lv_dcmp hx hb dL_law_2259 ?_
    rw [d_self (hnan v hc9)]
    refine lv_if_eq (tgt := 2285) hx hb dL_law_2260 (by decide) (fun _ => ?_) (fun c9 => absurd rfl c9)
    refine lv_goto (tgt := 3247) hx hb dL_law_2285 (by decide) ?_
    refine W.widen (k := cells + 3) (n := slots + 18) (by omega) (by omega) ?_
    exact kk _ _ _ _ _ hI9 _ _ hP hD hS _ (lv_sub hl [2, 3, 4, 5, 6, 7] rfl)
set_option maxRecDepth 100000 in
set_option maxHeartbeats 4000000 in
theorem v_claimShare (C : LC p l R s m args c D cA ad A b L xs) (hN : 2000 ≤ N) (hi : i + 6 ≤ L) (hI : IV n s0 s1 sm) (hn : n + 1 ≤ 512) (hcl : cells + 3 ≤ 603072) (hsl : slots + 18 ≤ 7198826) (hP : va_P D vwCl (LW cA ad hm hr h0 o od f g sm s0 s1) H) (hD : va_D A (LW cA ad hm hr h0 o od f g sm s0 s1)) (hS : va_S A s.heap H locs) (hl : lv_has ls 9 [(5, .int (iI (i : Int))), (4, .ref od), (3, .ref o), (2, .ref (hm 0)), (1, .ref (h0 0)), (0, .ref b)])
    (kk : LK p l e R s m args below meth c cells slots Q D cA ad A b hm hr h0 o od i n) : W p l e R s m args below meth c H locs cells slots Q (F0 m 2752 ls []) := by
  obtain ⟨⟨hx, hb, hml, hown, hts⟩, hl9, eR, hN9, hE, hV, hX, hK, hA, hXs, hbl, hbA, hL9⟩ := C
  obtain ⟨hst, hnan⟩ := st_claimShare (t := s0) (r := s1) (s := sm) hN hI hn
  obtain ⟨k, v, v9, sm9, hc9, hm9, hth, hq, hv, hI9⟩ := hst
  refine lv_aload_n hx hb dL_law_2752 rfl (lv_at hl 4 rfl) ?_
  refine lv_aload hx hb dL_law_2753 (lv_at hl 1 rfl) ?_
  refine hCall (w2 := LW cA ad hm hr h0 o od f (fD k g (FP.f2d v)) sm s0 s1) (hRunS (n := 2) (As := [.ref (h0 0), .ref od]) (rest := []) ⟨hx, hb, hml, hown, hts⟩ (h_claimShare l hl9 D cA ad hr h0 o od _ N  f g s0 s1 k v hc9 hq (fun hk => hnan v (hk ▸ hc9))) qcw_L_claimShare qml_L_356 qst_L_claimShare qini_L (by decide +kernel) (by rw [eR]; rfl) hN9 hE hV hX hS hA hK hP hD (mid 8 288) (LW_hC _ _ _ _ _ _ _ _ _ _ _ _) (mid_nd _ _) rfl rfl hl.1 rfl (lv_room (Nat.le_of_ble_eq_true rfl)) dL_law_2755 ⟨by rw [eR]; show cells + 1 ≤ 603072; omega, by rw [eR]; show slots + 6 ≤ 7198826; omega⟩) hP hD hS hA (mid 8 288) (LW_hC _ _ _ _ _ _ _ _ _ _ _ _) (HW_fst _ _ _ _ _ _ _ _ _ _ _ _ _ _) (LW_hH _ _ _ _ _ _ _ _ _ _ _ _ _ _ _ _) (fun H locs hP hD hS => ?_)
  refine lv_istore (lv' := [(6, .int (iI (lawC [6] k : Int))), (5, .int (iI (i : Int))), (4, .ref od), (3, .ref o), (2, .ref (hm 0)), (1, .ref (h0 0)), (0, .ref b)]) hx hb dL_law_2758 hl (by decide) rfl (fun ls hl => ?_)
  refine lv_aload_n hx hb dL_law_2760 rfl (lv_at hl 4 rfl) ?_
  refine xCallH (w2 := LW cA ad hm hr h0 o od f (fD k g (FP.f2d v)) sm9 s0 s1) (xRunV (n := 0) (As := []) (rest := []) ⟨hx, hb, hml, hown, hts⟩ (kX13_claimShare l D cA hm _ N sm (v9, sm9) hm9) qco_X13_claimShare qml_L_358 qin_X13_claimShare qse_X13_claimShare qini_X13 (by decide +kernel) (by rw [eR]; rfl) hK hP hD (mid 0 8) (LW_mC _ _ _ _ _ _ _ _ _ _ _ _) (mid_nd _ _) (q0 := 0) rfl rfl rfl rfl rfl hl.1 rfl (lv_room (Nat.le_of_ble_eq_true rfl)) dL_law_2761 ⟨by rw [eR]; show cells + 1 ≤ 603072; omega, by rw [eR]; show slots + 6 ≤ 7198826; omega⟩) hP hD hS hA (mid 0 8) (LW_mC _ _ _ _ _ _ _ _ _ _ _ _) rfl (LW_mH _ _ _ _ _ _ _ _ _ _ _ _ _) (fun H locs hP hD hS => ?_)
  refine lv_fstore (lv' := [(7, .float v9), (6, .int (iI (lawC [6] k : Int))), (5, .int (iI (i : Int))), (4, .ref od), (3, .ref o), (2, .ref (hm 0)), (1, .ref (h0 0)), (0, .ref b)]) hx hb dL_law_2764 hl (by decide) rfl (fun ls hl => ?_)
  refine lv_aload_n hx hb dL_law_2766 rfl (lv_at hl 5 rfl) ?_
  refine xCallH (w2 := LW cA ad hm hr h0 o od f (fD k g (FP.f2d v)) sm9 s0 s1) (xRunV (n := 0) (As := []) (rest := []) ⟨hx, hb, hml, hown, hts⟩ (kX13_thrown l D cA hm _ N sm9 _ rfl) qco_X13_thrown qml_L_184 qin_X13_thrown qse_X13_thrown qini_X13 (by decide +kernel) (by rw [eR]; rfl) hK hP hD (mid 0 8) (LW_mC _ _ _ _ _ _ _ _ _ _ _ _) (mid_nd _ _) (q0 := 0) rfl rfl rfl rfl rfl hl.1 rfl (lv_room (Nat.le_of_ble_eq_true rfl)) dL_law_2767 ⟨by rw [eR]; show cells + 1 ≤ 603072; omega, by rw [eR]; show slots + 6 ≤ 7198826; omega⟩) hP hD hS hA (mid 0 8) (LW_mC _ _ _ _ _ _ _ _ _ _ _ _) rfl (LW_mH _ _ _ _ _ _ _ _ _ _ _ _ _) (fun H locs hP hD hS => ?_)
  refine lv_iload hx hb dL_law_2770 (lv_at hl 1 rfl) ?_
  refine lv_icmp_eq (tgt := 2777) hx hb dL_law_2772 (by decide) (fun _ => ?_) (fun c9 => absurd hth c9)
  refine lv_iload hx hb dL_law_2777 (lv_at hl 1 rfl) ?_
  refine lv_if_ne (tgt := 2815) hx hb dL_law_2779 (by decide) (fun c9 => ?_) (fun c9 => ?_)
  · refine lv_goto (tgt := 3247) hx hb dL_law_2815 (by decide) ?_
    refine W.widen (k := cells + 3) (n := slots + 18) (by omega) (by omega) ?_
    exact kk _ _ _ _ _ hI9 _ _ hP hD hS _ (lv_sub hl [2, 3, 4, 5, 6, 7] rfl)
  · have hk : k = 0 := Classical.byContradiction fun hk => lawC_nz hk (by decide) c9
    subst hk
    have hvv := hv rfl
    subst hvv
    refine lv_aload hx hb dL_law_2782 (lv_at hl 3 rfl) ?_
    refine lv_iconst (v := 0) hx hb dL_law_2784 (by decide) ?_
    refine va_dald hx hb hK hP 9 6 rfl rfl (x_lit (n := 1) (k := 0) (by decide)).1 dL_law_2785 ?_
    rw [fD_0]
    refine lv_fload hx hb dL_law_2786 (lv_at hl 0 rfl) ?_
    refine lv_f2d hx hb dL_law_2788 (vz64 (fz_d _ (hnan v hc9))) ?_
    refine lv_dcmp hx hb dL_law_2789 ?_
    rw [d_self (hnan v hc9)]
    refine lv_if_eq (tgt := 2815) hx hb dL_law_2790 (by decide) (fun _ => ?_) (fun c9 => absurd rfl c9)
    refine lv_goto (tgt := 3247) hx hb dL_law_2815 (by decide) ?_
    refine W.widen (k := cells + 3) (n := slots + 18) (by omega) (by omega) ?_
    exact kk _ _ _ _ _ hI9 _ _ hP hD hS _ (lv_sub hl [2, 3, 4, 5, 6, 7] rfl)
end CASES
