/-! ===== the law's texts as numbers; put, runs, fails, isOutput ===== -/
def txI (i : Nat) : List Int := (tTxt.getD i []).map Int32.toInt
theorem tx_all : (List.range 19).all (fun i => decide ((txI i).length = tTln.getD i 0) && decide ((txI i).length ≤ 58) && (txI i).all (fun c => decide (0 ≤ c ∧ c < 65536))) = true := by decide +kernel
theorem tx_len {i : Nat} (hi : i < 19) : (txI i).length = tTln.getD i 0 ∧ (txI i).length ≤ 58 ∧ ∀ c ∈ txI i, isCh c := by
  have h := List.all_eq_true.mp tx_all i (List.mem_range.mpr hi)
  simp only [Bool.and_eq_true, decide_eq_true_eq, List.all_eq_true] at h
  exact ⟨h.1.1, h.1.2, fun c hc => h.2 c hc⟩
theorem tx_at {i k : Nat} (hi : i < 19) (hk : k < (txI i).length) : ∃ c, (txI i)[k]? = some c ∧ isCh c ∧ tCh i k = iI c := by
  obtain ⟨c, hc⟩ : ∃ c, (txI i)[k]? = some c := ⟨_, List.getElem?_eq_getElem hk⟩
  refine ⟨c, hc, (tx_len hi).2.2 _ (List.mem_of_getElem? hc), ?_⟩
  unfold txI at hc
  rw [List.getElem?_map] at hc
  unfold tCh
  rw [List.getD_eq_getElem?_getD]
  cases h : (tTxt.getD i [])[k]? with
  | none => rw [h] at hc; cases hc
  | some y =>
    rw [h] at hc
    have hc := Option.some.inj hc
    rw [← hc, ← i_of]
    rfl
theorem tLen_I {i : Nat} (hi : i < 19) : tLen i = iI ((txI i).length : Int) := by
  unfold tLen
  rw [(tx_len hi).1]
  exact (Int32.ofInt_eq_ofNat).symm
theorem tW_nil {W : SO} (h : oT W = []) : tW W [] = W := by
  obtain ⟨a, b, c, d, e⟩ := W
  have h : d = [] := h
  subst h
  rfl
theorem nat_cl {k : Nat} (hk : k < 2147483648) : (iI (k : Int)).toNatClampNeg = k := by
  have h1 := i_int (z := (k : Int)) (by omega) (by omega)
  show (iI (k : Int)).toInt.toNat = k
  rw [h1]
  omega
section OS
variable {p : Program} {l : Launch} {e : Env} {R : Room} {s : State} {m : MethodId} {As0 : List Value} {below : List Frame} {meth : Method} {c : Code} {H : Heap} {locs : List Loc} {cells slots : Nat} {Q : State → Prop}
variable {cc : ByteArray} {nL index pc : Nat} {ret0 : Option FieldType} {ls : Array Slot} {st0 rest : List Value} {D : va_G} {cA : Nat → ClassId} {ad an tt : Nat → Nat} {ws : va_W} {A : Nat → Prop}
/-- a text's length, and a character of it -/
theorem ocLen (B : lB p l s m As0 c meth cc nL ret0 D cA ad an tt A) (hP : va_P D vwCl ws H) (hD : va_D A ws) (hS : va_S A s.heap H locs) {i : Nat} (hi : i < 19)
    (hml : Cond.methodLink RL index yJ0_length_8abf5 ∈ xW) (hR : (Nat.ble 2 R.frames && Nat.ble 40 R.locals) = true) (hsize : ls.size = nL) (hst : st0 = .ref (tt i) :: rest) (hW : 2 * (F0 m pc ls st0).monitorRoom + (rest.map fun v => v.category).sum ≤ 8) (hdg : decode cc pc = .ok (.invokevirtual index, 3)) (hcs : cells ≤ R.cells ∧ slots ≤ R.slots)
    (kk : ∀ (H1 : Heap) (locs1 : List Loc), va_P D vwCl ws H1 → va_D A ws → va_S A s.heap H1 locs1 → W p l e R s m As0.toArray below meth c H1 locs1 cells slots Q (F0 m (pc + 3) ls (.int (iI ((txI i).length : Int)) :: rest))) :
    W p l e R s m As0.toArray below meth c H locs cells slots Q (F0 m pc ls st0) := by
  obtain ⟨S, hret, hlocks, hK, hA, hQ, hE⟩ := B
  rw [← tLen_I hi] at kk
  simp only [Bool.and_eq_true, Nat.ble_eq] at hR
  exact xCallH (w2 := ws) (tRunVr (n := 0) (As := []) (rest := rest) S (uJ0_length l D cA tt _ hi) qco_J0_length_8abf5 hml qin_J0_length_8abf5 qse_J0_length_8abf5 qini_J0 (by decide +kernel) (by simp only [Bool.and_eq_true, beq_iff_eq, Nat.ble_eq]; exact ⟨⟨⟨trivial, trivial⟩, hR.1⟩, hR.2⟩) hQ.1 hE.2.2.2 hS hA hK hP hD [] rfl rfl (hE.2.2.2.str hS hi) rfl rfl hsize hst hW hdg hcs) hP hD hS hA [] rfl rfl (fun i q h => .inl ⟨List.not_mem_nil, h⟩) kk
theorem ocChr (B : lB p l s m As0 c meth cc nL ret0 D cA ad an tt A) (hP : va_P D vwCl ws H) (hD : va_D A ws) (hS : va_S A s.heap H locs) {i k : Nat} (hi : i < 19) (hk : k < (txI i).length) {x : Int} (hx : (txI i)[k]? = some x)
    (hml : Cond.methodLink RL index yJ0_charAt_5068e ∈ xW) (hR : (Nat.ble 4 R.frames && Nat.ble 85 R.locals) = true) (hsize : ls.size = nL) (hst : st0 = .int (iI (k : Int)) :: .ref (tt i) :: rest) (hW : 2 * (F0 m pc ls st0).monitorRoom + (rest.map fun v => v.category).sum ≤ 8) (hdg : decode cc pc = .ok (.invokevirtual index, 3)) (hcs : cells ≤ R.cells ∧ slots ≤ R.slots)
    (kk : ∀ (H1 : Heap) (locs1 : List Loc), va_P D vwCl ws H1 → va_D A ws → va_S A s.heap H1 locs1 → W p l e R s m As0.toArray below meth c H1 locs1 cells slots Q (F0 m (pc + 3) ls (.int (iI x) :: rest))) :
    W p l e R s m As0.toArray below meth c H locs cells slots Q (F0 m pc ls st0) := by
  obtain ⟨S, hret, hlocks, hK, hA, hQ, hE⟩ := B
  obtain ⟨x', q1, -, q2⟩ := tx_at hi hk
  cases Option.some.inj (hx.symm.trans q1)
  rw [← q2] at kk
  have hl := tx_len hi
  simp only [Bool.and_eq_true, Nat.ble_eq] at hR
  have h1 : ¬ iI (k : Int) < 0 := by rw [i_lit, i_lt (by omega) (by omega) (by omega) (by omega)]; omega
  have h2 : iI (k : Int) < tLen i := by rw [tLen_I hi, i_lt (by omega) (by omega) (by omega) (by omega)]; omega
  exact xCallH (w2 := ws) (tRunVr (n := 1) (As := [.int (iI (k : Int))]) (rest := rest) S (uJ0_charAt l D cA tt _ hi (iI (k : Int)) h1 h2 (k := k) (nat_cl (by omega)) (by omega)) qco_J0_charAt_5068e hml qin_J0_charAt_5068e qse_J0_charAt_5068e qini_J0 (by decide +kernel) (by simp only [Bool.and_eq_true, beq_iff_eq, Nat.ble_eq]; exact ⟨⟨⟨trivial, trivial⟩, hR.1⟩, hR.2⟩) hQ.1 hE.2.2.2 hS hA hK hP hD [] rfl rfl (hE.2.2.2.str hS hi) rfl rfl hsize hst hW hdg hcs) hP hD hS hA [] rfl rfl (fun i q h => .inl ⟨List.not_mem_nil, h⟩) kk
end OS
theorem take_snoc {T : List Int} {k : Nat} {x : Int} (h : T[k]? = some x) : T.take k ++ [x] = T.take (k + 1) := by
  rw [List.take_add_one, h]
  rfl
set_option maxRecDepth 100000 in
set_option maxHeartbeats 4000000 in
theorem l_put (l : Launch) (hl9 : l.stackTraces = false) (D : va_G) (cA : Nat → ClassId) (ad an tt : Nat → Nat) (hr : Nat → Nat → Nat) (h0 : Nat → Nat) (sz n : Nat) (i : Nat) (hi : i < 19) (t : ThlS) (r : Nat → BooS) (Wo : SO) (hV : V n t r Wo) (hT : oT Wo = []) : lM l yL_put (.code yL_put cL_put 3 none) ({ frames := 7, cells := 60, slots := 360, locals := 111 }) D cA ad an tt (fun _ => True) (TR cA ad hr h0 t r) sz [.ref (h0 0), .ref (tt i)] (fun _ => none) (fun u : ThlS × (Nat → BooS) => V n u.1 u.2 (tW Wo (txI i))) (fun u => TR cA ad hr h0 u.1 u.2) 60 360 := by
  generalize erm : ({ frames := 7, cells := 60, slots := 360, locals := 111 } : Room) = rm
  refine lMet (by decide) rfl (Nat.le_of_ble_eq_true rfl) ?_
  intro p e s m below meth c A eA B hP hD hS hsz _ ls hl
  have hl : lv_has ls 3 [(0, .ref (h0 0)), (1, .ref (tt i))] := hl
  have hx := B.1.1
  have hb := B.1.2.1
  have hP := ocP hP
  have hD := ocPD hD
  have hln := tx_len hi
  have loop : ∀ (j k : Nat), k + j = (txI i).length → ∀ (t : ThlS) (cz : Nat), cz + j ≤ 60 → V n t r (tW Wo ((txI i).take k)) → ∀ (H : Heap) (locs : List Loc), va_P D vwCl ([] ++ (TR cA ad hr h0 t r ++ [])) H → va_D A ([] ++ (TR cA ad hr h0 t r ++ [])) → va_S A s.heap H locs → ∀ ls : Array Slot, lv_has ls 3 [(2, .int (iI (k : Int))), (0, .ref (h0 0)), (1, .ref (tt i))] → W p l e rm s m ([.ref (h0 0), .ref (tt i)] : List Value).toArray below meth c H locs cz (6 * cz) (MQ below (lQ D cA A (fun _ => none) (fun u : ThlS × (Nat → BooS) => V n u.1 u.2 (tW Wo (txI i))) (fun u => TR cA ad hr h0 u.1 u.2)) ([.ref (h0 0), .ref (tt i)] : List Value).toArray s 60 360 A) (F0 m 2 ls []) := by
    clear hP hD hS hl
    intro j
    induction j with
    | zero =>
      intro k hk t cz hcz hVk H locs hP hD hS ls hl
      refine lv_iload_n hx hb dL_put_2 rfl (lv_at hl 0 rfl) ?_
      refine lv_aload_n hx hb dL_put_3 rfl (lv_at hl 2 rfl) ?_
      refine ocLen B hP hD hS hi qml_L_7 (by rw [← erm]; decide) hl.1 rfl (lv_room (Nat.le_of_ble_eq_true rfl)) dL_put_4 ⟨by rw [← erm]; show cz ≤ 60; omega, by rw [← erm]; show 6 * cz ≤ 360; omega⟩ (fun H locs hP hD hS => ?_)
      refine lv_icmp_ge (tgt := 26) hx hb dL_put_7 (by decide) (fun _ => ?_) (fun cc => absurd (by rw [i_le (by omega) (by omega) (by omega) (by omega)]; omega) cc)
      refine W.widen (k := 60) (n := 360) (by omega) (by omega) ?_
      have e : (txI i).take k = txI i := List.take_of_length_le (by omega)
      rw [e] at hVk
      exact lVret (t, r) rfl hVk hx hb B.2.1 B.2.2.1 (ocQ hP) B.2.2.2.1 (ocQD hD) hS dL_put_26
    | succ j ih =>
      intro k hk t cz hcz hVk H locs hP hD hS ls hl
      obtain ⟨x, x1, x2, x3⟩ := tx_at hi (k := k) (by omega)
      obtain ⟨t9, v9, e9, hV9⟩ := V_feed hVk x2 (by show ((txI i).take k).length < 60; rw [List.length_take]; omega)
      refine lv_iload_n hx hb dL_put_2 rfl (lv_at hl 0 rfl) ?_
      refine lv_aload_n hx hb dL_put_3 rfl (lv_at hl 2 rfl) ?_
      refine ocLen B hP hD hS hi qml_L_7 (by rw [← erm]; decide) hl.1 rfl (lv_room (Nat.le_of_ble_eq_true rfl)) dL_put_4 ⟨by rw [← erm]; show cz ≤ 60; omega, by rw [← erm]; show 6 * cz ≤ 360; omega⟩ (fun H locs hP hD hS => ?_)
      refine lv_icmp_ge (tgt := 26) hx hb dL_put_7 (by decide) (fun cc => absurd cc (by rw [i_le (by omega) (by omega) (by omega) (by omega)]; omega)) (fun _ => ?_)
      refine lv_aload_n hx hb dL_put_10 rfl (lv_at hl 1 rfl) ?_
      refine lv_aload_n hx hb dL_put_11 rfl (lv_at hl 2 rfl) ?_
      refine lv_iload_n hx hb dL_put_12 rfl (lv_at hl 0 rfl) ?_
      refine ocChr B hP hD hS hi (k := k) (by omega) x1 qml_L_13 (by rw [← erm]; decide) hl.1 rfl (lv_room (Nat.le_of_ble_eq_true rfl)) dL_put_13 ⟨by rw [← erm]; show cz ≤ 60; omega, by rw [← erm]; show 6 * cz ≤ 360; omega⟩ (fun H locs hP hD hS => ?_)
      refine ocT (t9 := t9) (mc := 1) (ms := 6) B rfl hP hD hS (kX12_feed l hl9 D cA ad hr h0 _ 2000 (iI x) t (0, v9, t9) e9) qco_X12_feed qml_L_17 qin_X12_feed qse_X12_feed qini_X12 (show xCd yX12_feed 1 = true by decide +kernel) (by rw [← erm]; rfl) hl.1 rfl (lv_room (Nat.le_of_ble_eq_true rfl)) dL_put_16 ⟨by rw [← erm]; show cz + 1 ≤ 60; omega, by rw [← erm]; show 6 * cz + 6 ≤ 360; omega⟩ (fun H locs hP hD hS => ?_)
      refine lv_pop hx hb dL_put_19 rfl ?_
      refine lv_iinc (v := iI ((k + 1 : Nat) : Int)) (lv' := [(2, .int (iI ((k + 1 : Nat) : Int))), (0, .ref (h0 0)), (1, .ref (tt i))]) hx hb dL_put_20 hl (k := 0) rfl (by show iI (k : Int) + iI 1 = _; rw [i_add]; rfl) (by decide) rfl (fun ls hl => ?_)
      refine lv_goto (tgt := 2) hx hb dL_put_23 (by decide) ?_
      have e : tW (tW Wo ((txI i).take k)) (oT (tW Wo ((txI i).take k)) ++ [x]) = tW Wo ((txI i).take (k + 1)) := by
        show tW Wo ((txI i).take k ++ [x]) = _
        rw [take_snoc x1]
      rw [e] at hV9
      have h6 : 6 * cz + 6 = 6 * (cz + 1) := by omega
      rw [h6]
      exact ih (k + 1) (by omega) t9 (cz + 1) (by omega) hV9 H locs hP hD hS ls hl
  refine lv_iconst (v := 0) hx hb dL_put_0 (by decide) ?_
  refine lv_istore_n (lv' := [(2, .int (iI ((0 : Nat) : Int))), (0, .ref (h0 0)), (1, .ref (tt i))]) hx hb dL_put_1 rfl hl (by decide) rfl (fun ls hl => ?_)
  exact loop (txI i).length 0 (by omega) t 0 (by omega) (by rw [List.take_zero, tW_nil hT]; exact hV) s.heap [] hP hD hS ls hl
