/-! ===== the law's body: the first two objects ===== -/
section WX
variable {D : va_G} {cl : List vw_C} {H : Heap} {A : Nat → Prop} {P Q U : va_W}
theorem wxyP (h : va_P D cl ([] ++ (P ++ (Q ++ []))) H) : va_P D cl (P ++ (Q ++ [])) H := h
theorem wxyD (h : va_D A ([] ++ (P ++ (Q ++ [])))) : va_D A (P ++ (Q ++ [])) := h
theorem wyxP (h : va_P D cl (P ++ (Q ++ [])) H) : va_P D cl ([] ++ (P ++ (Q ++ []))) H := h
theorem wyxD (h : va_D A (P ++ (Q ++ []))) : va_D A ([] ++ (P ++ (Q ++ []))) := h
theorem w21P (h : va_P D cl (P ++ Q) H) : va_P D cl ([] ++ (P ++ (Q ++ []))) H := by rw [List.append_nil]; exact h
theorem w21D (h : va_D A (P ++ Q)) : va_D A ([] ++ (P ++ (Q ++ []))) := by rw [List.append_nil]; exact h
theorem w12P (h : va_P D cl ([] ++ (P ++ (Q ++ []))) H) : va_P D cl (P ++ Q) H := by rw [List.append_nil] at h; exact h
theorem w12D (h : va_D A ([] ++ (P ++ (Q ++ [])))) : va_D A (P ++ Q) := by rw [List.append_nil] at h; exact h
theorem w3P (h : va_P D cl (P ++ U) H) : va_P D cl (P ++ (U ++ [])) H := by rw [List.append_nil]; exact h
theorem w3D (h : va_D A (P ++ U)) : va_D A (P ++ (U ++ [])) := by rw [List.append_nil]; exact h
theorem wzxP (h : va_P D cl ((P ++ Q) ++ (U ++ [])) H) : va_P D cl ([] ++ (P ++ (Q ++ (U ++ [])))) H := by rw [List.append_assoc] at h; exact h
theorem wzxD (h : va_D A ((P ++ Q) ++ (U ++ []))) : va_D A ([] ++ (P ++ (Q ++ (U ++ [])))) := by rw [List.append_assoc] at h; exact h
end WX
theorem and7_all : ∀ x : Int32, ∃ j : Nat, j < 8 ∧ x &&& 7 = iI (j : Int) := by
  intro x
  refine ⟨(x.toBitVec &&& 7#32).toNat, ?_, ?_⟩
  · rw [BitVec.toNat_and]
    exact Nat.lt_of_le_of_lt Nat.and_le_right (by decide)
  · show x &&& 7 = Int32.ofInt ((x.toBitVec &&& 7#32).toNat : Int)
    rw [Int32.ofInt_eq_ofNat]
    refine Int32.toBitVec.inj ?_
    refine BitVec.eq_of_toNat_eq ?_
    show (x.toBitVec &&& 7#32).toNat = (BitVec.ofNat 32 (x.toBitVec &&& 7#32).toNat).toNat
    rw [BitVec.toNat_ofNat]
    exact (Nat.mod_eq_of_lt (x.toBitVec &&& 7#32).isLt).symm
theorem n_all (x : Int32) : ∃ n : Nat, n < 9 ∧ 0 < n ∧ 1 + (x &&& 7) = iI (n : Int) := by
  obtain ⟨j, h1, h2⟩ := and7_all x
  refine ⟨1 + j, by omega, by omega, ?_⟩
  rw [h2, show (1 : Int32) = iI 1 from rfl, i_add]
  rfl
theorem xs_run1 {n : Nat} {t : ThlS} {r : Nat → BooS} {S B : SG} {X : SO} (hV : V n t r (tW X (txI 1))) (h : XF S B X) (hn : n + 12 ≤ 512) : ∃ t' r' X', fX12_runCommands 2000 t r = some (0, 3, t', r') ∧ V (n + 12) t' r' X' ∧ XF (S3 S) B X' ∧ EH X' [S] := by
  obtain ⟨t', r', q1, q2⟩ := V_run hV hn
  obtain ⟨e1, e2, e3, e4⟩ := x_run1 h
  rw [e1, e2] at q1
  refine ⟨t', r', _, q1, q2, e3, ?_⟩
  obtain ⟨P, hP⟩ := pushH_end (H := oH X) (P := oH X) (L := []) (S := S) (List.append_nil _).symm (by decide)
  exact ⟨P, e4.trans hP⟩
theorem y_done {n : Nat} {t : ThlS} {r : Nat → BooS} {S : SG} {Y : SO} (hY : oS Y = S) (hV : V n t r (stO (stO (stO Y (sHours 2 (oS Y))) (sFall (oS (stO Y (sHours 2 (oS Y)))))) (sHours 1 (oS (stO (stO Y (sHours 2 (oS Y))) (sFall (oS (stO Y (sHours 2 (oS Y)))))))))) : ∃ Y' A B, V n t r Y' ∧ oS Y' = S3 S ∧ EH Y' [S, A, B] := by
  subst hY
  have h0 : EH Y [] := ⟨oH Y, (List.append_nil _).symm⟩
  exact ⟨_, _, _, hV, rfl, ((h0.st (by decide) _).st (by simp) _).st (by simp) _⟩
theorem xf_undo {S B : SG} {X X' : SO} {S' : SG} (h : XF S' B X) (e1 : oS X' = S) (e2 : X'.2.2 = X.2.2) : XF S B X' := ⟨e1, (congrArg (fun z => z.2.1) e2).trans h.2.1, (congrArg (fun z => z.1) e2).trans h.2.2⟩
theorem xq_failed {n : Nat} {t : ThlS} {r : Nat → BooS} {X : SO} (hV : V n t r X) {k : Int} (hF : oF X = k) (hk : k ≠ -1) : fX12_failedCommand 2000 t = some (0, iI k) := by
  have q := V_failed hV (by rw [hF]; exact hk)
  rw [hF] at q
  exact q
section LX
variable {p : Program} {l : Launch} {e : Env} {rm : Room} {s : State} {m : MethodId} {below : List Frame} {meth : Method} {c : Code} {H : Heap} {locs : List Loc} {Q : State → Prop} {ls : Array Slot} {D : va_G} {cA : Nat → ClassId} {ad an tt : Nat → Nat} {hr1 hr2 : Nat → Nat → Nat} {h1 h2 : Nat → Nat} {A : Nat → Prop} {b L : Nat} {xs : Nat → Int32} {v3 : Int32} {t1 t2 : ThlS} {r1 r2 : Nat → BooS} {S : SG} {X Y : SO}
set_option maxRecDepth 100000 in
set_option maxHeartbeats 4000000 in
theorem lx_2 (hl9 : l.stackTraces = false) (B : lB p l s m [.ref b] c meth cL_law 7 (some .boolean) D cA ad an tt A) (erm : RLw = rm) (hV1 : V 40 t1 r1 X) (hX1 : XF S S X) (hV2 : V 40 t2 r2 Y) (hY : oS Y = S) (hP : va_P D vwCl ([] ++ (TR cA ad hr1 h1 t1 r1 ++ (TR cA ad hr2 h2 t2 r2 ++ []))) H) (hD : va_D A ([] ++ (TR cA ad hr1 h1 t1 r1 ++ (TR cA ad hr2 h2 t2 r2 ++ [])))) (hS : va_S A s.heap H locs) (hl : lv_has ls 7 [(4, .int (stV S)), (3, .int v3), (2, .ref (h2 0)), (1, .ref (h1 0)), (0, .ref b)]) (kk : ∀ (t1 : ThlS) (r1 : Nat → BooS) (t2 : ThlS) (r2 : Nat → BooS) (X : SO), V 53 t1 r1 X → XF S S X → ∀ (H : Heap) (locs : List Loc), va_P D vwCl ([] ++ (TR cA ad hr1 h1 t1 r1 ++ (TR cA ad hr2 h2 t2 r2 ++ []))) H → va_D A ([] ++ (TR cA ad hr1 h1 t1 r1 ++ (TR cA ad hr2 h2 t2 r2 ++ []))) → va_S A s.heap H locs → ∀ ls : Array Slot, lv_has ls 7 [(4, .int (stV S)), (3, .int v3), (2, .ref (h2 0)), (1, .ref (h1 0)), (0, .ref b)] → W p l e rm s m ([.ref b] : List Value).toArray below meth c H locs 40000 400000 Q (F0 m 121 ls [])) : W p l e rm s m ([.ref b] : List Value).toArray below meth c H locs 20000 200000 Q (F0 m 21 ls []) := by
  have hx := B.1.1
  have hb := B.1.2.1
  refine lv_aload_n hx hb dL_law_21 rfl (lv_at hl 3 rfl) ?_
  refine va_ldcS hx hb B.1.2.2.2.1 (B.2.2.2.2.2.1.2.2 1 (by decide)) dL_law_22 ?_
  refine ocL (F := fun u => u) (mc := 60) (ms := 360) B (P := ([] : va_W)) (a := 0) rfl hP hD hS (l_put l hl9 D cA ad an tt hr1 h1 _ _ 1 (by decide) t1 r1 X hV1 hX1.2.1) qco_L_put qml_L_191 qst_L_put qini_L (show xCd yL_put 2 = true by decide +kernel) (by rw [← erm]; rfl) hl.1 rfl (lv_room (Nat.le_of_ble_eq_true rfl)) dL_law_24 ⟨by rw [← erm]; exact Nat.le_of_ble_eq_true rfl, by rw [← erm]; exact Nat.le_of_ble_eq_true rfl⟩ (fun u1 hV9 H locs hP hD hS => ?_)
  have hV1 := hV9
  refine lv_aload_n hx hb dL_law_27 rfl (lv_at hl 3 rfl) ?_
  obtain ⟨t3, r3, X1, q, hV1, hX1, hE1⟩ := xs_run1 hV1 hX1 (by omega)
  refine ocR (t9 := t3) (r9 := r3) (mc := 1) (ms := 6) B (P := ([] : va_W)) (a := 0) rfl hP hD hS (kX12_runCommands l hl9 D cA ad hr1 h1 _ 2000  u1.1 u1.2 (0, 3, t3, r3) q) qco_X12_runCommands qml_L_195 qin_X12_runCommands qse_X12_runCommands qini_X12 (show xCd yX12_runCommands 0 = true by decide +kernel) (by rw [← erm]; rfl) hl.1 rfl (lv_room (Nat.le_of_ble_eq_true rfl)) dL_law_28 ⟨by rw [← erm]; exact Nat.le_of_ble_eq_true rfl, by rw [← erm]; exact Nat.le_of_ble_eq_true rfl⟩ (fun H locs hP hD hS => ?_)
  refine lv_iconst (v := 3) hx hb dL_law_31 (by decide) ?_
  refine lv_icmp_ne (tgt := 71) hx hb dL_law_32 (by decide) (fun cc => absurd rfl cc) (fun _ => ?_)
  refine lv_aload_n hx hb dL_law_35 rfl (lv_at hl 2 rfl) ?_
  refine lv_iconst (v := 2) hx hb dL_law_36 (by decide) ?_
  have hP := wxyP hP
  have hD := wxyD hD
  obtain ⟨t41, r41, v19, q, g1, hV2⟩ := xy_pass hV2 (by omega) 2 2 (by decide) (by decide)
  refine ocR (t9 := t41) (r9 := r41) (mc := 1) (ms := 6) B (TR_len cA ad hr1 h1 _ _) hP hD hS (kX12_passHours l hl9 D cA ad hr2 h2 _ 2000 2 t2 r2 (0, v19, t41, r41) q) qco_X12_passHours qml_L_81 qin_X12_passHours qse_X12_passHours qini_X12 (show xCd yX12_passHours 1 = true by decide +kernel) (by rw [← erm]; rfl) hl.1 rfl (lv_room (Nat.le_of_ble_eq_true rfl)) dL_law_37 ⟨by rw [← erm]; exact Nat.le_of_ble_eq_true rfl, by rw [← erm]; exact Nat.le_of_ble_eq_true rfl⟩ (fun H locs hP hD hS => ?_)
  refine lv_if_lt (tgt := 71) hx hb dL_law_40 (by decide) (fun cc => absurd cc g1) (fun _ => ?_)
  refine lv_aload_n hx hb dL_law_43 rfl (lv_at hl 2 rfl) ?_
  obtain ⟨t42, r42, v29, q, g2, hV2⟩ := xy_cur hV2 (by omega)
  refine ocRz (t9 := t42) (r9 := r42) B (TR_len cA ad hr1 h1 _ _) hP hD hS (kX12_curtain l D cA ad hr2 h2 _ 2000  t41 r41 (v29, t42, r42) q) qco_X12_curtain qml_L_97 qin_X12_curtain qse_X12_curtain qini_X12 (show xCd yX12_curtain 0 = true by decide +kernel) (by rw [← erm]; rfl) hl.1 rfl (lv_room (Nat.le_of_ble_eq_true rfl)) dL_law_44 ⟨by rw [← erm]; exact Nat.le_of_ble_eq_true rfl, by rw [← erm]; exact Nat.le_of_ble_eq_true rfl⟩ (fun H locs hP hD hS => ?_)
  refine lv_ldc hx hb B.1.2.2.2.1 (B.1.2.2.2.2 _ qci_L_198) dL_law_47 ?_
  refine lv_icmp_lt (tgt := 71) hx hb dL_law_49 (by decide) (fun cc => absurd cc g2) (fun _ => ?_)
  refine lv_aload_n hx hb dL_law_52 rfl (lv_at hl 2 rfl) ?_
  refine lv_iconst (v := 1) hx hb dL_law_53 (by decide) ?_
  obtain ⟨t43, r43, v39, q, g3, hV2⟩ := xy_pass hV2 (by omega) 1 1 (by decide) (by decide)
  refine ocR (t9 := t43) (r9 := r43) (mc := 1) (ms := 6) B (TR_len cA ad hr1 h1 _ _) hP hD hS (kX12_passHours l hl9 D cA ad hr2 h2 _ 2000 1 t42 r42 (0, v39, t43, r43) q) qco_X12_passHours qml_L_81 qin_X12_passHours qse_X12_passHours qini_X12 (show xCd yX12_passHours 1 = true by decide +kernel) (by rw [← erm]; rfl) hl.1 rfl (lv_room (Nat.le_of_ble_eq_true rfl)) dL_law_54 ⟨by rw [← erm]; exact Nat.le_of_ble_eq_true rfl, by rw [← erm]; exact Nat.le_of_ble_eq_true rfl⟩ (fun H locs hP hD hS => ?_)
  obtain ⟨Y3, A9, B9, hV2, hY, hE2⟩ := y_done hY hV2
  refine lv_if_lt (tgt := 71) hx hb dL_law_57 (by decide) (fun cc => absurd cc g3) (fun _ => ?_)
  refine lv_aload_n hx hb dL_law_60 rfl (lv_at hl 3 rfl) ?_
  have hP := wyxP hP
  have hD := wyxD hD
  refine ocL (F := fun u => u) (mc := 250) (ms := 1500) B (P := ([] : va_W)) (a := 0) rfl hP hD hS (l_state l hl9 D cA ad an tt hr1 h1 _ _ t3 r3 X1 hV1) qco_L_state qml_L_185 qst_L_state qini_L (show xCd yL_state 1 = true by decide +kernel) (by rw [← erm]; rfl) hl.1 rfl (lv_room (Nat.le_of_ble_eq_true rfl)) dL_law_61 ⟨by rw [← erm]; exact Nat.le_of_ble_eq_true rfl, by rw [← erm]; exact Nat.le_of_ble_eq_true rfl⟩ (fun u2 hV9 H locs hP hD hS => ?_)
  have hV1 := hV9
  rw [hX1.1]
  refine lv_aload_n hx hb dL_law_64 rfl (lv_at hl 2 rfl) ?_
  have hP := wxyP hP
  have hD := wxyD hD
  refine ocL (F := fun u => u) (mc := 250) (ms := 1500) B (TR_len cA ad hr1 h1 _ _) hP hD hS (l_state l hl9 D cA ad an tt hr2 h2 _ _ t43 r43 Y3 hV2) qco_L_state qml_L_185 qst_L_state qini_L (show xCd yL_state 1 = true by decide +kernel) (by rw [← erm]; rfl) hl.1 rfl (lv_room (Nat.le_of_ble_eq_true rfl)) dL_law_65 ⟨by rw [← erm]; exact Nat.le_of_ble_eq_true rfl, by rw [← erm]; exact Nat.le_of_ble_eq_true rfl⟩ (fun u3 hV9 H locs hP hD hS => ?_)
  have hV2 := hV9
  rw [hY]
  refine lv_icmp_eq (tgt := 73) hx hb dL_law_68 (by decide) (fun _ => ?_) (fun cc => absurd rfl cc)
  refine lv_aload_n hx hb dL_law_73 rfl (lv_at hl 3 rfl) ?_
  have hP := wyxP hP
  have hD := wyxD hD
  obtain ⟨t44, r44, v49, X2, q, g4, hV1, e1, -, e2⟩ := xy_undo (L := []) (S := S) hV1 hE1
  have hX1 := xf_undo hX1 e1 e2
  refine ocR (t9 := t44) (r9 := r44) (mc := 1) (ms := 6) B (P := ([] : va_W)) (a := 0) rfl hP hD hS (kX12_undo l hl9 D cA ad hr1 h1 _ 2000  u2.1 u2.2 (0, v49, t44, r44) q) qco_X12_undo qml_L_199 qin_X12_undo qse_X12_undo qini_X12 (show xCd yX12_undo 0 = true by decide +kernel) (by rw [← erm]; rfl) hl.1 rfl (lv_room (Nat.le_of_ble_eq_true rfl)) dL_law_74 ⟨by rw [← erm]; exact Nat.le_of_ble_eq_true rfl, by rw [← erm]; exact Nat.le_of_ble_eq_true rfl⟩ (fun H locs hP hD hS => ?_)
  refine lv_if_lt (tgt := 119) hx hb dL_law_77 (by decide) (fun cc => absurd cc g4) (fun _ => ?_)
  refine lv_aload_n hx hb dL_law_80 rfl (lv_at hl 3 rfl) ?_
  refine ocL (F := fun u => u) (mc := 250) (ms := 1500) B (P := ([] : va_W)) (a := 0) rfl hP hD hS (l_state l hl9 D cA ad an tt hr1 h1 _ _ t44 r44 X2 hV1) qco_L_state qml_L_185 qst_L_state qini_L (show xCd yL_state 1 = true by decide +kernel) (by rw [← erm]; rfl) hl.1 rfl (lv_room (Nat.le_of_ble_eq_true rfl)) dL_law_81 ⟨by rw [← erm]; exact Nat.le_of_ble_eq_true rfl, by rw [← erm]; exact Nat.le_of_ble_eq_true rfl⟩ (fun u4 hV9 H locs hP hD hS => ?_)
  have hV1 := hV9
  rw [hX1.1]
  refine lv_iload hx hb dL_law_84 (lv_at hl 0 rfl) ?_
  refine lv_icmp_ne (tgt := 119) hx hb dL_law_86 (by decide) (fun cc => absurd rfl cc) (fun _ => ?_)
  refine lv_aload_n hx hb dL_law_89 rfl (lv_at hl 2 rfl) ?_
  have hP := wxyP hP
  have hD := wxyD hD
  obtain ⟨t45, r45, v59, Y5, q, g5, hV2, hY, hE2, -⟩ := xy_undo (L := [S, A9]) (S := B9) hV2 hE2
  refine ocR (t9 := t45) (r9 := r45) (mc := 1) (ms := 6) B (TR_len cA ad hr1 h1 _ _) hP hD hS (kX12_undo l hl9 D cA ad hr2 h2 _ 2000  u3.1 u3.2 (0, v59, t45, r45) q) qco_X12_undo qml_L_199 qin_X12_undo qse_X12_undo qini_X12 (show xCd yX12_undo 0 = true by decide +kernel) (by rw [← erm]; rfl) hl.1 rfl (lv_room (Nat.le_of_ble_eq_true rfl)) dL_law_90 ⟨by rw [← erm]; exact Nat.le_of_ble_eq_true rfl, by rw [← erm]; exact Nat.le_of_ble_eq_true rfl⟩ (fun H locs hP hD hS => ?_)
  refine lv_if_lt (tgt := 119) hx hb dL_law_93 (by decide) (fun cc => absurd cc g5) (fun _ => ?_)
  refine lv_aload_n hx hb dL_law_96 rfl (lv_at hl 2 rfl) ?_
  obtain ⟨t46, r46, v69, Y6, q, g6, hV2, hY, hE2, -⟩ := xy_undo (L := [S]) (S := A9) hV2 hE2
  refine ocR (t9 := t46) (r9 := r46) (mc := 1) (ms := 6) B (TR_len cA ad hr1 h1 _ _) hP hD hS (kX12_undo l hl9 D cA ad hr2 h2 _ 2000  t45 r45 (0, v69, t46, r46) q) qco_X12_undo qml_L_199 qin_X12_undo qse_X12_undo qini_X12 (show xCd yX12_undo 0 = true by decide +kernel) (by rw [← erm]; rfl) hl.1 rfl (lv_room (Nat.le_of_ble_eq_true rfl)) dL_law_97 ⟨by rw [← erm]; exact Nat.le_of_ble_eq_true rfl, by rw [← erm]; exact Nat.le_of_ble_eq_true rfl⟩ (fun H locs hP hD hS => ?_)
  refine lv_if_lt (tgt := 119) hx hb dL_law_100 (by decide) (fun cc => absurd cc g6) (fun _ => ?_)
  refine lv_aload_n hx hb dL_law_103 rfl (lv_at hl 2 rfl) ?_
  obtain ⟨t47, r47, v79, Y7, q, g7, hV2, hY, hE2, -⟩ := xy_undo (L := []) (S := S) hV2 hE2
  refine ocR (t9 := t47) (r9 := r47) (mc := 1) (ms := 6) B (TR_len cA ad hr1 h1 _ _) hP hD hS (kX12_undo l hl9 D cA ad hr2 h2 _ 2000  t46 r46 (0, v79, t47, r47) q) qco_X12_undo qml_L_199 qin_X12_undo qse_X12_undo qini_X12 (show xCd yX12_undo 0 = true by decide +kernel) (by rw [← erm]; rfl) hl.1 rfl (lv_room (Nat.le_of_ble_eq_true rfl)) dL_law_104 ⟨by rw [← erm]; exact Nat.le_of_ble_eq_true rfl, by rw [← erm]; exact Nat.le_of_ble_eq_true rfl⟩ (fun H locs hP hD hS => ?_)
  refine lv_if_lt (tgt := 119) hx hb dL_law_107 (by decide) (fun cc => absurd cc g7) (fun _ => ?_)
  refine lv_aload_n hx hb dL_law_110 rfl (lv_at hl 2 rfl) ?_
  refine ocL (F := fun u => u) (mc := 250) (ms := 1500) B (TR_len cA ad hr1 h1 _ _) hP hD hS (l_state l hl9 D cA ad an tt hr2 h2 _ _ t47 r47 Y7 hV2) qco_L_state qml_L_185 qst_L_state qini_L (show xCd yL_state 1 = true by decide +kernel) (by rw [← erm]; rfl) hl.1 rfl (lv_room (Nat.le_of_ble_eq_true rfl)) dL_law_111 ⟨by rw [← erm]; exact Nat.le_of_ble_eq_true rfl, by rw [← erm]; exact Nat.le_of_ble_eq_true rfl⟩ (fun u5 hV9 H locs hP hD hS => ?_)
  have hV2 := hV9
  rw [hY]
  refine lv_iload hx hb dL_law_114 (lv_at hl 0 rfl) ?_
  refine lv_icmp_eq (tgt := 121) hx hb dL_law_116 (by decide) (fun _ => ?_) (fun cc => absurd rfl cc)
  have hP := wyxP hP
  have hD := wyxD hD
  refine W.widen (k := 40000) (n := 400000) (Nat.le_of_ble_eq_true rfl) (Nat.le_of_ble_eq_true rfl) ?_
  exact kk u4.1 u4.2 u5.1 u5.2 _ hV1 hX1 H locs hP hD hS ls hl
set_option maxRecDepth 100000 in
set_option maxHeartbeats 4000000 in
theorem lx_3 (hl9 : l.stackTraces = false) (B : lB p l s m [.ref b] c meth cL_law 7 (some .boolean) D cA ad an tt A) (erm : RLw = rm) (hV1 : V 53 t1 r1 X) (hX1 : XF S S X) (hP : va_P D vwCl ([] ++ (TR cA ad hr1 h1 t1 r1 ++ (TR cA ad hr2 h2 t2 r2 ++ []))) H) (hD : va_D A ([] ++ (TR cA ad hr1 h1 t1 r1 ++ (TR cA ad hr2 h2 t2 r2 ++ [])))) (hS : va_S A s.heap H locs) (hl : lv_has ls 7 [(4, .int (stV S)), (3, .int v3), (2, .ref (h2 0)), (1, .ref (h1 0)), (0, .ref b)]) (kk : ∀ (t1 : ThlS) (r1 : Nat → BooS) (t2 : ThlS) (r2 : Nat → BooS) (X : SO), V 77 t1 r1 X → XF S S X → oF X = 0 → ∀ (H : Heap) (locs : List Loc), va_P D vwCl ([] ++ (TR cA ad hr1 h1 t1 r1 ++ (TR cA ad hr2 h2 t2 r2 ++ []))) H → va_D A ([] ++ (TR cA ad hr1 h1 t1 r1 ++ (TR cA ad hr2 h2 t2 r2 ++ []))) → va_S A s.heap H locs → ∀ ls : Array Slot, lv_has ls 7 [(4, .int (stV S)), (3, .int v3), (2, .ref (h2 0)), (1, .ref (h1 0)), (0, .ref b)] → W p l e rm s m ([.ref b] : List Value).toArray below meth c H locs 60000 600000 Q (F0 m 188 ls [])) : W p l e rm s m ([.ref b] : List Value).toArray below meth c H locs 40000 400000 Q (F0 m 121 ls []) := by
  have hx := B.1.1
  have hb := B.1.2.1
  refine lv_aload_n hx hb dL_law_121 rfl (lv_at hl 3 rfl) ?_
  refine va_ldcS hx hb B.1.2.2.2.1 (B.2.2.2.2.2.1.2.2 2 (by decide)) dL_law_122 ?_
  refine ocL (F := fun u => u) (mc := 60) (ms := 360) B (P := ([] : va_W)) (a := 0) rfl hP hD hS (l_put l hl9 D cA ad an tt hr1 h1 _ _ 2 (by decide) t1 r1 X hV1 hX1.2.1) qco_L_put qml_L_191 qst_L_put qini_L (show xCd yL_put 2 = true by decide +kernel) (by rw [← erm]; rfl) hl.1 rfl (lv_room (Nat.le_of_ble_eq_true rfl)) dL_law_124 ⟨by rw [← erm]; exact Nat.le_of_ble_eq_true rfl, by rw [← erm]; exact Nat.le_of_ble_eq_true rfl⟩ (fun u1 hV9 H locs hP hD hS => ?_)
  have hV1 := hV9
  refine lv_aload_n hx hb dL_law_127 rfl (lv_at hl 3 rfl) ?_
  refine ocLW (F := fun u => u) (mc := 1) (ms := 6) B (P := ([] : va_W)) (a := 0) rfl hP hD hS (l_runs l hl9 D cA ad an tt hr1 h1 _ _ u1.1 u1.2 (tW X (txI 2)) hV1 (by omega)) qcw_L_runs qml_L_204 qst_L_runs qini_L (show xCd yL_runs 1 = true by decide +kernel) (by rw [← erm]; rfl) hl.1 rfl (lv_room (Nat.le_of_ble_eq_true rfl)) dL_law_128 ⟨by rw [← erm]; exact Nat.le_of_ble_eq_true rfl, by rw [← erm]; exact Nat.le_of_ble_eq_true rfl⟩ (fun u2 hV9 H locs hP hD hS => ?_)
  rw [(x_run2 hX1).1]
  obtain ⟨X1, hV1, hX1, hF⟩ : ∃ X', V _ u2.1 u2.2 X' ∧ XF S S X' ∧ oF X' = 1 := ⟨_, hV9, (x_run2 hX1).2.1, (x_run2 hX1).2.2⟩
  refine lv_bipush (v := (-2)) hx hb dL_law_131 (by decide) ?_
  refine lv_icmp_ne (tgt := 153) hx hb dL_law_133 (by decide) (fun cc => absurd rfl cc) (fun _ => ?_)
  refine lv_aload_n hx hb dL_law_136 rfl (lv_at hl 3 rfl) ?_
  have q : fX12_failedCommand 2000 u2.1 = some (0, 1) := xq_failed hV1 hF (by decide)
  refine ocT (t9 := u2.1) (mc := 1) (ms := 6) B (P := ([] : va_W)) (a := 0) rfl hP hD hS (kX12_failedCommand l hl9 D cA ad hr1 h1 _ 2000  u2.1 (0, 1) q) qco_X12_failedCommand qml_L_207 qin_X12_failedCommand qse_X12_failedCommand qini_X12 (show xCd yX12_failedCommand 0 = true by decide +kernel) (by rw [← erm]; rfl) hl.1 rfl (lv_room (Nat.le_of_ble_eq_true rfl)) dL_law_137 ⟨by rw [← erm]; exact Nat.le_of_ble_eq_true rfl, by rw [← erm]; exact Nat.le_of_ble_eq_true rfl⟩ (fun H locs hP hD hS => ?_)
  refine lv_iconst (v := 1) hx hb dL_law_140 (by decide) ?_
  refine lv_icmp_ne (tgt := 153) hx hb dL_law_141 (by decide) (fun cc => absurd rfl cc) (fun _ => ?_)
  refine lv_aload_n hx hb dL_law_144 rfl (lv_at hl 3 rfl) ?_
  refine ocL (F := fun u => u) (mc := 250) (ms := 1500) B (P := ([] : va_W)) (a := 0) rfl hP hD hS (l_state l hl9 D cA ad an tt hr1 h1 _ _ u2.1 u2.2 X1 hV1) qco_L_state qml_L_185 qst_L_state qini_L (show xCd yL_state 1 = true by decide +kernel) (by rw [← erm]; rfl) hl.1 rfl (lv_room (Nat.le_of_ble_eq_true rfl)) dL_law_145 ⟨by rw [← erm]; exact Nat.le_of_ble_eq_true rfl, by rw [← erm]; exact Nat.le_of_ble_eq_true rfl⟩ (fun u3 hV9 H locs hP hD hS => ?_)
  have hV1 := hV9
  rw [hX1.1]
  refine lv_iload hx hb dL_law_148 (lv_at hl 0 rfl) ?_
  refine lv_icmp_eq (tgt := 155) hx hb dL_law_150 (by decide) (fun _ => ?_) (fun cc => absurd rfl cc)
  refine lv_aload_n hx hb dL_law_155 rfl (lv_at hl 3 rfl) ?_
  refine va_ldcS hx hb B.1.2.2.2.1 (B.2.2.2.2.2.1.2.2 3 (by decide)) dL_law_156 ?_
  refine ocL (F := fun u => u) (mc := 60) (ms := 360) B (P := ([] : va_W)) (a := 0) rfl hP hD hS (l_put l hl9 D cA ad an tt hr1 h1 _ _ 3 (by decide) u3.1 u3.2 X1 hV1 hX1.2.1) qco_L_put qml_L_191 qst_L_put qini_L (show xCd yL_put 2 = true by decide +kernel) (by rw [← erm]; rfl) hl.1 rfl (lv_room (Nat.le_of_ble_eq_true rfl)) dL_law_158 ⟨by rw [← erm]; exact Nat.le_of_ble_eq_true rfl, by rw [← erm]; exact Nat.le_of_ble_eq_true rfl⟩ (fun u4 hV9 H locs hP hD hS => ?_)
  have hV1 := hV9
  refine lv_aload_n hx hb dL_law_161 rfl (lv_at hl 3 rfl) ?_
  refine ocLW (F := fun u => u) (mc := 1) (ms := 6) B (P := ([] : va_W)) (a := 0) rfl hP hD hS (l_runs l hl9 D cA ad an tt hr1 h1 _ _ u4.1 u4.2 (tW X1 (txI 3)) hV1 (by omega)) qcw_L_runs qml_L_204 qst_L_runs qini_L (show xCd yL_runs 1 = true by decide +kernel) (by rw [← erm]; rfl) hl.1 rfl (lv_room (Nat.le_of_ble_eq_true rfl)) dL_law_162 ⟨by rw [← erm]; exact Nat.le_of_ble_eq_true rfl, by rw [← erm]; exact Nat.le_of_ble_eq_true rfl⟩ (fun u5 hV9 H locs hP hD hS => ?_)
  rw [(x_run3 hX1).1]
  obtain ⟨X2, hV1, hX1, hF⟩ : ∃ X', V _ u5.1 u5.2 X' ∧ XF S S X' ∧ oF X' = 0 := ⟨_, hV9, (x_run3 hX1).2.1, (x_run3 hX1).2.2⟩
  refine lv_bipush (v := (-2)) hx hb dL_law_165 (by decide) ?_
  refine lv_icmp_ne (tgt := 186) hx hb dL_law_167 (by decide) (fun cc => absurd rfl cc) (fun _ => ?_)
  refine lv_aload_n hx hb dL_law_170 rfl (lv_at hl 3 rfl) ?_
  have q : fX12_failedCommand 2000 u5.1 = some (0, 0) := xq_failed hV1 hF (by decide)
  refine ocT (t9 := u5.1) (mc := 1) (ms := 6) B (P := ([] : va_W)) (a := 0) rfl hP hD hS (kX12_failedCommand l hl9 D cA ad hr1 h1 _ 2000  u5.1 (0, 0) q) qco_X12_failedCommand qml_L_207 qin_X12_failedCommand qse_X12_failedCommand qini_X12 (show xCd yX12_failedCommand 0 = true by decide +kernel) (by rw [← erm]; rfl) hl.1 rfl (lv_room (Nat.le_of_ble_eq_true rfl)) dL_law_171 ⟨by rw [← erm]; exact Nat.le_of_ble_eq_true rfl, by rw [← erm]; exact Nat.le_of_ble_eq_true rfl⟩ (fun H locs hP hD hS => ?_)
  refine lv_if_ne (tgt := 186) hx hb dL_law_174 (by decide) (fun cc => absurd rfl cc) (fun _ => ?_)
  refine lv_aload_n hx hb dL_law_177 rfl (lv_at hl 3 rfl) ?_
  refine ocL (F := fun u => u) (mc := 250) (ms := 1500) B (P := ([] : va_W)) (a := 0) rfl hP hD hS (l_state l hl9 D cA ad an tt hr1 h1 _ _ u5.1 u5.2 X2 hV1) qco_L_state qml_L_185 qst_L_state qini_L (show xCd yL_state 1 = true by decide +kernel) (by rw [← erm]; rfl) hl.1 rfl (lv_room (Nat.le_of_ble_eq_true rfl)) dL_law_178 ⟨by rw [← erm]; exact Nat.le_of_ble_eq_true rfl, by rw [← erm]; exact Nat.le_of_ble_eq_true rfl⟩ (fun u6 hV9 H locs hP hD hS => ?_)
  have hV1 := hV9
  rw [hX1.1]
  refine lv_iload hx hb dL_law_181 (lv_at hl 0 rfl) ?_
  refine lv_icmp_eq (tgt := 188) hx hb dL_law_183 (by decide) (fun _ => ?_) (fun cc => absurd rfl cc)
  refine W.widen (k := 60000) (n := 600000) (Nat.le_of_ble_eq_true rfl) (Nat.le_of_ble_eq_true rfl) ?_
  exact kk u6.1 u6.2 t2 r2 _ hV1 hX1 hF H locs hP hD hS ls hl
set_option maxRecDepth 100000 in
set_option maxHeartbeats 4000000 in
theorem lx_4 (hl9 : l.stackTraces = false) (B : lB p l s m [.ref b] c meth cL_law 7 (some .boolean) D cA ad an tt A) (erm : RLw = rm) (hV1 : V 77 t1 r1 X) (hX1 : XF S S X) (hF : oF X = 0) (hP : va_P D vwCl ([] ++ (TR cA ad hr1 h1 t1 r1 ++ (TR cA ad hr2 h2 t2 r2 ++ []))) H) (hD : va_D A ([] ++ (TR cA ad hr1 h1 t1 r1 ++ (TR cA ad hr2 h2 t2 r2 ++ [])))) (hS : va_S A s.heap H locs) (hl : lv_has ls 7 [(4, .int (stV S)), (3, .int v3), (2, .ref (h2 0)), (1, .ref (h1 0)), (0, .ref b)]) (kk : ∀ (t1 : ThlS) (r1 : Nat → BooS) (t2 : ThlS) (r2 : Nat → BooS) (X : SO), V 209 t1 r1 X → XF S S X → ∀ (H : Heap) (locs : List Loc), va_P D vwCl ([] ++ (TR cA ad hr1 h1 t1 r1 ++ (TR cA ad hr2 h2 t2 r2 ++ []))) H → va_D A ([] ++ (TR cA ad hr1 h1 t1 r1 ++ (TR cA ad hr2 h2 t2 r2 ++ []))) → va_S A s.heap H locs → ∀ ls : Array Slot, lv_has ls 7 [(4, .int (stV S)), (3, .int v3), (2, .ref (h2 0)), (1, .ref (h1 0)), (0, .ref b)] → W p l e rm s m ([.ref b] : List Value).toArray below meth c H locs 80000 800000 Q (F0 m 320 ls [])) : W p l e rm s m ([.ref b] : List Value).toArray below meth c H locs 60000 600000 Q (F0 m 188 ls []) := by
  have hx := B.1.1
  have hb := B.1.2.1
  refine lv_aload_n hx hb dL_law_188 rfl (lv_at hl 3 rfl) ?_
  refine va_ldcS hx hb B.1.2.2.2.1 (B.2.2.2.2.2.1.2.2 4 (by decide)) dL_law_189 ?_
  refine lv_iconst (v := 1) hx hb dL_law_191 (by decide) ?_
  refine ocL (F := fun u => u) (mc := 62) (ms := 372) B (P := ([] : va_W)) (a := 0) rfl hP hD hS (l_fails l hl9 D cA ad an tt hr1 h1 _ _ 4 (by decide) 1 t1 r1 X hV1 (by omega) hX1.2.1 (by decide +kernel) (by decide +kernel)) qco_L_fails qml_L_214 qst_L_fails qini_L (show xCd yL_fails 3 = true by decide +kernel) (by rw [← erm]; rfl) hl.1 rfl (lv_room (Nat.le_of_ble_eq_true rfl)) dL_law_192 ⟨by rw [← erm]; exact Nat.le_of_ble_eq_true rfl, by rw [← erm]; exact Nat.le_of_ble_eq_true rfl⟩ (fun u1 hV9 H locs hP hD hS => ?_)
  obtain ⟨X1, hV1, hX1, hF⟩ : ∃ X', V _ u1.1 u1.2 X' ∧ XF S S X' ∧ oF X' = 0 := ⟨_, hV9, ⟨hX1.1, rfl, hX1.2.2⟩, hF⟩
  refine lv_if_eq (tgt := 318) hx hb dL_law_195 (by decide) (fun cc => absurd cc one_ne) (fun _ => ?_)
  refine lv_aload_n hx hb dL_law_198 rfl (lv_at hl 3 rfl) ?_
  refine va_ldcS hx hb B.1.2.2.2.1 (B.2.2.2.2.2.1.2.2 5 (by decide)) dL_law_199 ?_
  refine lv_iconst (v := 1) hx hb dL_law_201 (by decide) ?_
  refine ocL (F := fun u => u) (mc := 62) (ms := 372) B (P := ([] : va_W)) (a := 0) rfl hP hD hS (l_fails l hl9 D cA ad an tt hr1 h1 _ _ 5 (by decide) 1 u1.1 u1.2 X1 hV1 (by omega) hX1.2.1 (by decide +kernel) (by decide +kernel)) qco_L_fails qml_L_214 qst_L_fails qini_L (show xCd yL_fails 3 = true by decide +kernel) (by rw [← erm]; rfl) hl.1 rfl (lv_room (Nat.le_of_ble_eq_true rfl)) dL_law_202 ⟨by rw [← erm]; exact Nat.le_of_ble_eq_true rfl, by rw [← erm]; exact Nat.le_of_ble_eq_true rfl⟩ (fun u2 hV9 H locs hP hD hS => ?_)
  obtain ⟨X2, hV1, hX1, hF⟩ : ∃ X', V _ u2.1 u2.2 X' ∧ XF S S X' ∧ oF X' = 0 := ⟨_, hV9, ⟨hX1.1, rfl, hX1.2.2⟩, hF⟩
  refine lv_if_eq (tgt := 318) hx hb dL_law_205 (by decide) (fun cc => absurd cc one_ne) (fun _ => ?_)
  refine lv_aload_n hx hb dL_law_208 rfl (lv_at hl 3 rfl) ?_
  refine va_ldcS hx hb B.1.2.2.2.1 (B.2.2.2.2.2.1.2.2 6 (by decide)) dL_law_209 ?_
  refine lv_bipush (v := 8) hx hb dL_law_211 (by decide) ?_
  refine ocL (F := fun u => u) (mc := 62) (ms := 372) B (P := ([] : va_W)) (a := 0) rfl hP hD hS (l_fails l hl9 D cA ad an tt hr1 h1 _ _ 6 (by decide) 8 u2.1 u2.2 X2 hV1 (by omega) hX1.2.1 (by decide +kernel) (by decide +kernel)) qco_L_fails qml_L_214 qst_L_fails qini_L (show xCd yL_fails 3 = true by decide +kernel) (by rw [← erm]; rfl) hl.1 rfl (lv_room (Nat.le_of_ble_eq_true rfl)) dL_law_213 ⟨by rw [← erm]; exact Nat.le_of_ble_eq_true rfl, by rw [← erm]; exact Nat.le_of_ble_eq_true rfl⟩ (fun u3 hV9 H locs hP hD hS => ?_)
  obtain ⟨X3, hV1, hX1, hF⟩ : ∃ X', V _ u3.1 u3.2 X' ∧ XF S S X' ∧ oF X' = 0 := ⟨_, hV9, ⟨hX1.1, rfl, hX1.2.2⟩, hF⟩
  refine lv_if_eq (tgt := 318) hx hb dL_law_216 (by decide) (fun cc => absurd cc one_ne) (fun _ => ?_)
  refine lv_aload_n hx hb dL_law_219 rfl (lv_at hl 3 rfl) ?_
  refine va_ldcS hx hb B.1.2.2.2.1 (B.2.2.2.2.2.1.2.2 7 (by decide)) dL_law_220 ?_
  refine lv_iconst (v := 4) hx hb dL_law_222 (by decide) ?_
  refine ocL (F := fun u => u) (mc := 62) (ms := 372) B (P := ([] : va_W)) (a := 0) rfl hP hD hS (l_fails l hl9 D cA ad an tt hr1 h1 _ _ 7 (by decide) 4 u3.1 u3.2 X3 hV1 (by omega) hX1.2.1 (by decide +kernel) (by decide +kernel)) qco_L_fails qml_L_214 qst_L_fails qini_L (show xCd yL_fails 3 = true by decide +kernel) (by rw [← erm]; rfl) hl.1 rfl (lv_room (Nat.le_of_ble_eq_true rfl)) dL_law_223 ⟨by rw [← erm]; exact Nat.le_of_ble_eq_true rfl, by rw [← erm]; exact Nat.le_of_ble_eq_true rfl⟩ (fun u4 hV9 H locs hP hD hS => ?_)
  obtain ⟨X4, hV1, hX1, hF⟩ : ∃ X', V _ u4.1 u4.2 X' ∧ XF S S X' ∧ oF X' = 0 := ⟨_, hV9, ⟨hX1.1, rfl, hX1.2.2⟩, hF⟩
  refine lv_if_eq (tgt := 318) hx hb dL_law_226 (by decide) (fun cc => absurd cc one_ne) (fun _ => ?_)
  refine lv_aload_n hx hb dL_law_229 rfl (lv_at hl 3 rfl) ?_
  refine va_ldcS hx hb B.1.2.2.2.1 (B.2.2.2.2.2.1.2.2 8 (by decide)) dL_law_230 ?_
  refine lv_bipush (v := 7) hx hb dL_law_232 (by decide) ?_
  refine ocL (F := fun u => u) (mc := 62) (ms := 372) B (P := ([] : va_W)) (a := 0) rfl hP hD hS (l_fails l hl9 D cA ad an tt hr1 h1 _ _ 8 (by decide) 7 u4.1 u4.2 X4 hV1 (by omega) hX1.2.1 (by decide +kernel) (by decide +kernel)) qco_L_fails qml_L_214 qst_L_fails qini_L (show xCd yL_fails 3 = true by decide +kernel) (by rw [← erm]; rfl) hl.1 rfl (lv_room (Nat.le_of_ble_eq_true rfl)) dL_law_234 ⟨by rw [← erm]; exact Nat.le_of_ble_eq_true rfl, by rw [← erm]; exact Nat.le_of_ble_eq_true rfl⟩ (fun u5 hV9 H locs hP hD hS => ?_)
  obtain ⟨X5, hV1, hX1, hF⟩ : ∃ X', V _ u5.1 u5.2 X' ∧ XF S S X' ∧ oF X' = 0 := ⟨_, hV9, ⟨hX1.1, rfl, hX1.2.2⟩, hF⟩
  refine lv_if_eq (tgt := 318) hx hb dL_law_237 (by decide) (fun cc => absurd cc one_ne) (fun _ => ?_)
  refine lv_aload_n hx hb dL_law_240 rfl (lv_at hl 3 rfl) ?_
  refine va_ldcS hx hb B.1.2.2.2.1 (B.2.2.2.2.2.1.2.2 9 (by decide)) dL_law_241 ?_
  refine lv_bipush (v := 6) hx hb dL_law_243 (by decide) ?_
  refine ocL (F := fun u => u) (mc := 62) (ms := 372) B (P := ([] : va_W)) (a := 0) rfl hP hD hS (l_fails l hl9 D cA ad an tt hr1 h1 _ _ 9 (by decide) 6 u5.1 u5.2 X5 hV1 (by omega) hX1.2.1 (by decide +kernel) (by decide +kernel)) qco_L_fails qml_L_214 qst_L_fails qini_L (show xCd yL_fails 3 = true by decide +kernel) (by rw [← erm]; rfl) hl.1 rfl (lv_room (Nat.le_of_ble_eq_true rfl)) dL_law_245 ⟨by rw [← erm]; exact Nat.le_of_ble_eq_true rfl, by rw [← erm]; exact Nat.le_of_ble_eq_true rfl⟩ (fun u6 hV9 H locs hP hD hS => ?_)
  obtain ⟨X6, hV1, hX1, hF⟩ : ∃ X', V _ u6.1 u6.2 X' ∧ XF S S X' ∧ oF X' = 0 := ⟨_, hV9, ⟨hX1.1, rfl, hX1.2.2⟩, hF⟩
  refine lv_if_eq (tgt := 318) hx hb dL_law_248 (by decide) (fun cc => absurd cc one_ne) (fun _ => ?_)
  refine lv_aload_n hx hb dL_law_251 rfl (lv_at hl 3 rfl) ?_
  refine va_ldcS hx hb B.1.2.2.2.1 (B.2.2.2.2.2.1.2.2 10 (by decide)) dL_law_252 ?_
  refine lv_iconst (v := 0) hx hb dL_law_254 (by decide) ?_
  refine ocL (F := fun u => u) (mc := 62) (ms := 372) B (P := ([] : va_W)) (a := 0) rfl hP hD hS (l_fails l hl9 D cA ad an tt hr1 h1 _ _ 10 (by decide) 0 u6.1 u6.2 X6 hV1 (by omega) hX1.2.1 (by decide +kernel) (by decide +kernel)) qco_L_fails qml_L_214 qst_L_fails qini_L (show xCd yL_fails 3 = true by decide +kernel) (by rw [← erm]; rfl) hl.1 rfl (lv_room (Nat.le_of_ble_eq_true rfl)) dL_law_255 ⟨by rw [← erm]; exact Nat.le_of_ble_eq_true rfl, by rw [← erm]; exact Nat.le_of_ble_eq_true rfl⟩ (fun u7 hV9 H locs hP hD hS => ?_)
  obtain ⟨X7, hV1, hX1, hF⟩ : ∃ X', V _ u7.1 u7.2 X' ∧ XF S S X' ∧ oF X' = 0 := ⟨_, hV9, ⟨hX1.1, rfl, hX1.2.2⟩, hF⟩
  refine lv_if_eq (tgt := 318) hx hb dL_law_258 (by decide) (fun cc => absurd cc one_ne) (fun _ => ?_)
  refine lv_aload_n hx hb dL_law_261 rfl (lv_at hl 3 rfl) ?_
  refine va_ldcS hx hb B.1.2.2.2.1 (B.2.2.2.2.2.1.2.2 11 (by decide)) dL_law_262 ?_
  refine lv_iconst (v := 5) hx hb dL_law_264 (by decide) ?_
  refine ocL (F := fun u => u) (mc := 62) (ms := 372) B (P := ([] : va_W)) (a := 0) rfl hP hD hS (l_fails l hl9 D cA ad an tt hr1 h1 _ _ 11 (by decide) 5 u7.1 u7.2 X7 hV1 (by omega) hX1.2.1 (by decide +kernel) (by decide +kernel)) qco_L_fails qml_L_214 qst_L_fails qini_L (show xCd yL_fails 3 = true by decide +kernel) (by rw [← erm]; rfl) hl.1 rfl (lv_room (Nat.le_of_ble_eq_true rfl)) dL_law_265 ⟨by rw [← erm]; exact Nat.le_of_ble_eq_true rfl, by rw [← erm]; exact Nat.le_of_ble_eq_true rfl⟩ (fun u8 hV9 H locs hP hD hS => ?_)
  obtain ⟨X8, hV1, hX1, hF⟩ : ∃ X', V _ u8.1 u8.2 X' ∧ XF S S X' ∧ oF X' = 0 := ⟨_, hV9, ⟨hX1.1, rfl, hX1.2.2⟩, hF⟩
  refine lv_if_eq (tgt := 318) hx hb dL_law_268 (by decide) (fun cc => absurd cc one_ne) (fun _ => ?_)
  refine lv_aload_n hx hb dL_law_271 rfl (lv_at hl 3 rfl) ?_
  refine va_ldcS hx hb B.1.2.2.2.1 (B.2.2.2.2.2.1.2.2 12 (by decide)) dL_law_272 ?_
  refine lv_iconst (v := 5) hx hb dL_law_274 (by decide) ?_
  refine ocL (F := fun u => u) (mc := 62) (ms := 372) B (P := ([] : va_W)) (a := 0) rfl hP hD hS (l_fails l hl9 D cA ad an tt hr1 h1 _ _ 12 (by decide) 5 u8.1 u8.2 X8 hV1 (by omega) hX1.2.1 (by decide +kernel) (by decide +kernel)) qco_L_fails qml_L_214 qst_L_fails qini_L (show xCd yL_fails 3 = true by decide +kernel) (by rw [← erm]; rfl) hl.1 rfl (lv_room (Nat.le_of_ble_eq_true rfl)) dL_law_275 ⟨by rw [← erm]; exact Nat.le_of_ble_eq_true rfl, by rw [← erm]; exact Nat.le_of_ble_eq_true rfl⟩ (fun u9 hV9 H locs hP hD hS => ?_)
  obtain ⟨X9, hV1, hX1, hF⟩ : ∃ X', V _ u9.1 u9.2 X' ∧ XF S S X' ∧ oF X' = 0 := ⟨_, hV9, ⟨hX1.1, rfl, hX1.2.2⟩, hF⟩
  refine lv_if_eq (tgt := 318) hx hb dL_law_278 (by decide) (fun cc => absurd cc one_ne) (fun _ => ?_)
  refine lv_aload_n hx hb dL_law_281 rfl (lv_at hl 3 rfl) ?_
  refine va_ldcS hx hb B.1.2.2.2.1 (B.2.2.2.2.2.1.2.2 13 (by decide)) dL_law_282 ?_
  refine lv_bipush (v := 7) hx hb dL_law_284 (by decide) ?_
  refine ocL (F := fun u => u) (mc := 62) (ms := 372) B (P := ([] : va_W)) (a := 0) rfl hP hD hS (l_fails l hl9 D cA ad an tt hr1 h1 _ _ 13 (by decide) 7 u9.1 u9.2 X9 hV1 (by omega) hX1.2.1 (by decide +kernel) (by decide +kernel)) qco_L_fails qml_L_214 qst_L_fails qini_L (show xCd yL_fails 3 = true by decide +kernel) (by rw [← erm]; rfl) hl.1 rfl (lv_room (Nat.le_of_ble_eq_true rfl)) dL_law_286 ⟨by rw [← erm]; exact Nat.le_of_ble_eq_true rfl, by rw [← erm]; exact Nat.le_of_ble_eq_true rfl⟩ (fun u10 hV9 H locs hP hD hS => ?_)
  obtain ⟨X10, hV1, hX1, hF⟩ : ∃ X', V _ u10.1 u10.2 X' ∧ XF S S X' ∧ oF X' = 0 := ⟨_, hV9, ⟨hX1.1, rfl, hX1.2.2⟩, hF⟩
  refine lv_if_eq (tgt := 318) hx hb dL_law_289 (by decide) (fun cc => absurd cc one_ne) (fun _ => ?_)
  refine lv_aload_n hx hb dL_law_292 rfl (lv_at hl 3 rfl) ?_
  refine va_ldcS hx hb B.1.2.2.2.1 (B.2.2.2.2.2.1.2.2 14 (by decide)) dL_law_293 ?_
  refine lv_iconst (v := 0) hx hb dL_law_295 (by decide) ?_
  refine ocL (F := fun u => u) (mc := 62) (ms := 372) B (P := ([] : va_W)) (a := 0) rfl hP hD hS (l_fails l hl9 D cA ad an tt hr1 h1 _ _ 14 (by decide) 0 u10.1 u10.2 X10 hV1 (by omega) hX1.2.1 (by decide +kernel) (by decide +kernel)) qco_L_fails qml_L_214 qst_L_fails qini_L (show xCd yL_fails 3 = true by decide +kernel) (by rw [← erm]; rfl) hl.1 rfl (lv_room (Nat.le_of_ble_eq_true rfl)) dL_law_296 ⟨by rw [← erm]; exact Nat.le_of_ble_eq_true rfl, by rw [← erm]; exact Nat.le_of_ble_eq_true rfl⟩ (fun u11 hV9 H locs hP hD hS => ?_)
  obtain ⟨X11, hV1, hX1, hF⟩ : ∃ X', V _ u11.1 u11.2 X' ∧ XF S S X' ∧ oF X' = 0 := ⟨_, hV9, ⟨hX1.1, rfl, hX1.2.2⟩, hF⟩
  refine lv_if_eq (tgt := 318) hx hb dL_law_299 (by decide) (fun cc => absurd cc one_ne) (fun _ => ?_)
  refine lv_aload_n hx hb dL_law_302 rfl (lv_at hl 3 rfl) ?_
  have q : fX12_failedCommand 2000 u11.1 = some (0, 0) := xq_failed hV1 hF (by decide)
  refine ocT (t9 := u11.1) (mc := 1) (ms := 6) B (P := ([] : va_W)) (a := 0) rfl hP hD hS (kX12_failedCommand l hl9 D cA ad hr1 h1 _ 2000  u11.1 (0, 0) q) qco_X12_failedCommand qml_L_207 qin_X12_failedCommand qse_X12_failedCommand qini_X12 (show xCd yX12_failedCommand 0 = true by decide +kernel) (by rw [← erm]; rfl) hl.1 rfl (lv_room (Nat.le_of_ble_eq_true rfl)) dL_law_303 ⟨by rw [← erm]; exact Nat.le_of_ble_eq_true rfl, by rw [← erm]; exact Nat.le_of_ble_eq_true rfl⟩ (fun H locs hP hD hS => ?_)
  refine lv_if_ne (tgt := 318) hx hb dL_law_306 (by decide) (fun cc => absurd rfl cc) (fun _ => ?_)
  refine lv_aload_n hx hb dL_law_309 rfl (lv_at hl 3 rfl) ?_
  refine ocL (F := fun u => u) (mc := 250) (ms := 1500) B (P := ([] : va_W)) (a := 0) rfl hP hD hS (l_state l hl9 D cA ad an tt hr1 h1 _ _ u11.1 u11.2 X11 hV1) qco_L_state qml_L_185 qst_L_state qini_L (show xCd yL_state 1 = true by decide +kernel) (by rw [← erm]; rfl) hl.1 rfl (lv_room (Nat.le_of_ble_eq_true rfl)) dL_law_310 ⟨by rw [← erm]; exact Nat.le_of_ble_eq_true rfl, by rw [← erm]; exact Nat.le_of_ble_eq_true rfl⟩ (fun u12 hV9 H locs hP hD hS => ?_)
  have hV1 := hV9
  rw [hX1.1]
  refine lv_iload hx hb dL_law_313 (lv_at hl 0 rfl) ?_
  refine lv_icmp_eq (tgt := 320) hx hb dL_law_315 (by decide) (fun _ => ?_) (fun cc => absurd rfl cc)
  refine W.widen (k := 80000) (n := 800000) (Nat.le_of_ble_eq_true rfl) (Nat.le_of_ble_eq_true rfl) ?_
  exact kk u12.1 u12.2 t2 r2 _ hV1 hX1 H locs hP hD hS ls hl
set_option maxRecDepth 100000 in
set_option maxHeartbeats 4000000 in
theorem lx_1 (hl9 : l.stackTraces = false) (B : lB p l s m [.ref b] c meth cL_law 7 (some .boolean) D cA ad an tt A) (erm : RLw = rm) (hX : va_X b L xs s s.heap) (hbl : b < s.heap.size) (hbA : ¬ A b) (hL : L ≤ 260) (hP : va_P D vwCl ([] : va_W) H) (hD : va_D A ([] : va_W)) (hS : va_S A s.heap H locs) (hl : lv_has ls 7 [(0, .ref b)]) (kk : ∀ (hr1 hr2 : Nat → Nat → Nat) (h1 h2 : Nat → Nat) (t1 : ThlS) (r1 : Nat → BooS) (t2 : ThlS) (r2 : Nat → BooS) (X Y : SO), V 40 t1 r1 X → XF (oS (bW L xs)) (oS (bW L xs)) X → V 40 t2 r2 Y → oS Y = (oS (bW L xs)) → ∀ (H : Heap) (locs : List Loc), va_P D vwCl ([] ++ (TR cA ad hr1 h1 t1 r1 ++ (TR cA ad hr2 h2 t2 r2 ++ []))) H → va_D A ([] ++ (TR cA ad hr1 h1 t1 r1 ++ (TR cA ad hr2 h2 t2 r2 ++ []))) → va_S A s.heap H locs → ∀ ls : Array Slot, lv_has ls 7 [(4, .int (stV (oS (bW L xs)))), (3, .int (iI (aN (gA (oS (bW L xs))) : Int))), (2, .ref (h2 0)), (1, .ref (h1 0)), (0, .ref b)] → W p l e rm s m ([.ref b] : List Value).toArray below meth c H locs 20000 200000 Q (F0 m 21 ls [])) : W p l e rm s m ([.ref b] : List Value).toArray below meth c H locs 0 0 Q (F0 m 0 ls []) := by
  have hx := B.1.1
  have hb := B.1.2.1
  have hK := B.2.2.2.1
  have hA := B.2.2.2.2.1
  refine lv_aload_n hx hb dL_law_0 rfl (lv_at hl 0 rfl) ?_
  refine lCallN (lRunS (n := 1) (As := [.ref b]) (rest := []) B.1 exX (l_build l hl9 D cA ad an tt _ b L xs hL) qco_L_build qml_L_178 qst_L_build qini_L (by decide +kernel) (by rw [← erm]; rfl) B.2.2.2.2.2.1 B.2.2.2.2.2.2 hS hA hK hP hD [] rfl rfl (sX_pass hS hX hbl hbA) rfl rfl hl.1 rfl (lv_room (Nat.le_of_ble_eq_true rfl)) dL_law_1 ⟨by rw [← erm]; exact Nat.le_of_ble_eq_true rfl, by rw [← erm]; exact Nat.le_of_ble_eq_true rfl⟩) hP hD hS hA (fun u hVu H locs hP hD hS => ?_)
  obtain ⟨h1, hr1, t1, r1⟩ := u
  have hP : va_P D vwCl (TR cA ad hr1 h1 t1 r1) H := hP
  have hD : va_D A (TR cA ad hr1 h1 t1 r1) := hD
  refine lv_astore_n (lv' := [(1, .ref (h1 0)), (0, .ref b)]) hx hb dL_law_4 rfl hl (by decide) rfl (fun ls hl => ?_)
  refine lv_aload_n hx hb dL_law_5 rfl (lv_at hl 1 rfl) ?_
  refine lCallN (lRunS (n := 1) (As := [.ref b]) (rest := []) B.1 exX (l_build l hl9 D cA ad an tt _ b L xs hL) qco_L_build qml_L_178 qst_L_build qini_L (by decide +kernel) (by rw [← erm]; rfl) B.2.2.2.2.2.1 B.2.2.2.2.2.2 hS hA hK hP hD [] rfl rfl (sX_pass hS hX hbl hbA) rfl rfl hl.1 rfl (lv_room (Nat.le_of_ble_eq_true rfl)) dL_law_6 ⟨by rw [← erm]; exact Nat.le_of_ble_eq_true rfl, by rw [← erm]; exact Nat.le_of_ble_eq_true rfl⟩) hP hD hS hA (fun w hVw H locs hP hD hS => ?_)
  obtain ⟨h2, hr2, t2, r2⟩ := w
  have hP := w21P (P := TR cA ad hr1 h1 t1 r1) (Q := TR cA ad hr2 h2 t2 r2) hP
  have hD := w21D (P := TR cA ad hr1 h1 t1 r1) (Q := TR cA ad hr2 h2 t2 r2) hD
  refine lv_astore_n (lv' := [(2, .ref (h2 0)), (1, .ref (h1 0)), (0, .ref b)]) hx hb dL_law_9 rfl hl (by decide) rfl (fun ls hl => ?_)
  have hV1 : V 40 t1 r1 (bW L xs) := hVu
  have hV2 : V 40 t2 r2 (bW L xs) := hVw
  refine lv_aload_n hx hb dL_law_10 rfl (lv_at hl 1 rfl) ?_
  obtain ⟨t3, q, hV1⟩ := V_save hV1
  refine ocTz (t9 := t3) B (P := ([] : va_W)) (a := 0) rfl hP hD hS (kX12_save l D cA ad hr1 h1 _ 2000  t1 (iI (aN (gA (oS (bW L xs))) : Int), t3) q) qco_X12_save qml_L_182 qin_X12_save qse_X12_save qini_X12 (show xCd yX12_save 0 = true by decide +kernel) (by rw [← erm]; rfl) hl.1 rfl (lv_room (Nat.le_of_ble_eq_true rfl)) dL_law_11 ⟨by rw [← erm]; exact Nat.le_of_ble_eq_true rfl, by rw [← erm]; exact Nat.le_of_ble_eq_true rfl⟩ (fun H locs hP hD hS => ?_)
  refine lv_istore_n (lv' := [(3, .int (iI (aN (gA (oS (bW L xs))) : Int))), (2, .ref (h2 0)), (1, .ref (h1 0)), (0, .ref b)]) hx hb dL_law_14 rfl hl (by decide) rfl (fun ls hl => ?_)
  refine lv_aload_n hx hb dL_law_15 rfl (lv_at hl 2 rfl) ?_
  refine ocL (F := fun u => u) (mc := 250) (ms := 1500) B (P := ([] : va_W)) (a := 0) rfl hP hD hS (l_state l hl9 D cA ad an tt hr1 h1 _ _ t3 r1 (oS (bW L xs), oH (bW L xs), some (oS (bW L xs)), (bW L xs).2.2.2) hV1) qco_L_state qml_L_185 qst_L_state qini_L (show xCd yL_state 1 = true by decide +kernel) (by rw [← erm]; rfl) hl.1 rfl (lv_room (Nat.le_of_ble_eq_true rfl)) dL_law_16 ⟨by rw [← erm]; exact Nat.le_of_ble_eq_true rfl, by rw [← erm]; exact Nat.le_of_ble_eq_true rfl⟩ (fun u1 hV9 H locs hP hD hS => ?_)
  have hV1 := hV9
  refine lv_istore (lv' := [(4, .int (stV (oS (bW L xs)))), (3, .int (iI (aN (gA (oS (bW L xs))) : Int))), (2, .ref (h2 0)), (1, .ref (h1 0)), (0, .ref b)]) hx hb dL_law_19 hl (by decide) rfl (fun ls hl => ?_)
  refine W.widen (k := 20000) (n := 200000) (Nat.le_of_ble_eq_true rfl) (Nat.le_of_ble_eq_true rfl) ?_
  exact kk hr1 hr2 h1 h2 u1.1 u1.2 t2 r2 _ _ hV1 ⟨rfl, congrArg (fun z => z.2.1) (bW_t L xs), rfl⟩ hV2 rfl H locs hP hD hS ls hl
set_option maxRecDepth 100000 in
set_option maxHeartbeats 4000000 in
theorem lx_5 {P9 : va_W} {a1 a2 : Nat} {v4 : Int32} (hl9 : l.stackTraces = false) (B : lB p l s m [.ref b] c meth cL_law 7 (some .boolean) D cA ad an tt A) (erm : RLw = rm) (hX : va_X b L xs s s.heap) (hbl : b < s.heap.size) (hbA : ¬ A b) (hL : L ≤ 260) (hP : va_P D vwCl P9 H) (hD : va_D A P9) (hS : va_S A s.heap H locs) (hl : lv_has ls 7 [(4, .int v4), (3, .int v3), (2, .ref a2), (1, .ref a1), (0, .ref b)]) (kk : ∀ n : Nat, n < 9 → 0 < n → ∀ (hr : Nat → Nat → Nat) (h0 : Nat → Nat) (t : ThlS) (r : Nat → BooS), V 0 t r sO0 → ∀ (H : Heap) (locs : List Loc), va_P D vwCl (P9 ++ (TR cA ad hr h0 t r ++ [])) H → va_D A (P9 ++ (TR cA ad hr h0 t r ++ [])) → va_S A s.heap H locs → ∀ ls : Array Slot, lv_has ls 7 [(6, .ref (h0 0)), (5, .int (iI (n : Int))), (4, .int v4), (3, .int v3), (2, .ref a2), (1, .ref a1), (0, .ref b)] → W p l e rm s m ([.ref b] : List Value).toArray below meth c H locs 200000 2000000 Q (F0 m 342 ls [])) : W p l e rm s m ([.ref b] : List Value).toArray below meth c H locs 80000 800000 Q (F0 m 320 ls []) := by
  have hx := B.1.1
  have hb := B.1.2.1
  have hts := B.1.2.2.2.2
  have hown := B.1.2.2.2.1
  have hK := B.2.2.2.1
  have hA := B.2.2.2.2.1
  refine lv_iconst (v := 1) hx hb dL_law_320 (by decide) ?_
  refine lv_aload_n hx hb dL_law_321 rfl (lv_at hl 4 rfl) ?_
  refine lv_bipush (v := 13) hx hb dL_law_322 (by decide) ?_
  refine ocAt (k := 13) B hP hD hS hX hbl hbA hL (by decide) qml_L_24 (by rw [← erm]; decide) hl.1 rfl (lv_room (Nat.le_of_ble_eq_true rfl)) dL_law_324 ⟨by rw [← erm]; exact Nat.le_of_ble_eq_true rfl, by rw [← erm]; exact Nat.le_of_ble_eq_true rfl⟩ (fun H locs hP hD hS => ?_)
  obtain ⟨n, hn9, hn0, en⟩ := n_all (atX L xs 13)
  refine lv_bipush (v := 7) hx hb dL_law_327 (by decide) ?_
  refine lv_iand hx hb dL_law_329 ?_
  refine lv_iadd hx hb dL_law_330 ?_
  rw [en]
  refine lv_istore (lv' := [(5, .int (iI (n : Int))), (4, .int v4), (3, .int v3), (2, .ref a2), (1, .ref a1), (0, .ref b)]) hx hb dL_law_331 hl (by decide) rfl (fun ls hl => ?_)
  refine va_new (ci := 11) (fs := [.null, .null, .null, .null, .null, .null, .int 0, .int 0, .int 0, .int 0]) (C := RX12) (T := TX12) (N := 10) hx hb hts iX12 tyX12 tyX12_ok hown (hts _ qcs_L_18) (hts _ qit_X12) (hts _ qini_X12) hK hP hD hS hA rfl (by decide) (by rw [← erm]; exact Nat.le_of_ble_eq_true rfl) (by rw [← erm]; exact Nat.le_of_ble_eq_true rfl) dL_law_333 (fun q1 H hP hD hS => ?_)
  refine lv_dup hx hb dL_law_336 rfl ?_
  refine nCall (a := P9) (nRunI (rest := [.ref q1]) B.1 (nX12_init l D cA an ad q1 _) qco_X12_init qml_L_23 qin_X12_init qini_X12 (by decide +kernel) rfl (by rw [← erm]; rfl) B.2.2.2.2.2.1.1 B.2.2.2.2.2.2.2.2.1 hS hA hK hP hD rfl hl.1 rfl (lv_room (Nat.le_of_ble_eq_true rfl)) dL_law_337 ⟨by rw [← erm]; exact Nat.le_of_ble_eq_true rfl, by rw [← erm]; exact Nat.le_of_ble_eq_true rfl⟩) hP hD hS hA (fun u pu H locs hP hD hS => ?_)
  obtain ⟨h0, hr, t, r⟩ := u
  obtain ⟨e1, hRT⟩ := pu
  have e1 : h0 0 = q1 := e1
  have hV : V 0 t r sO0 := ⟨hRT, 0, 0, by omega, wo0⟩
  have hP := w3P (P := P9) (U := TR cA ad hr h0 t r) hP
  have hD := w3D (P := P9) (U := TR cA ad hr h0 t r) hD
  rw [← e1]
  refine lv_astore (lv' := [(6, .ref (h0 0)), (5, .int (iI (n : Int))), (4, .int v4), (3, .int v3), (2, .ref a2), (1, .ref a1), (0, .ref b)]) hx hb dL_law_340 hl (by decide) rfl (fun ls hl => ?_)
  refine W.widen (k := 200000) (n := 2000000) (Nat.le_of_ble_eq_true rfl) (Nat.le_of_ble_eq_true rfl) ?_
  exact kk n hn9 hn0 hr h0 t r hV H locs hP hD hS ls hl
set_option maxRecDepth 100000 in
set_option maxHeartbeats 4000000 in
theorem lx_6 {Z : va_W} {a2 a6 : Nat} {v5 : Int32} (hl9 : l.stackTraces = false) (B : lB p l s m [.ref b] c meth cL_law 7 (some .boolean) D cA ad an tt A) (erm : RLw = rm) (hV1 : V 209 t1 r1 X) (hX1 : XF S S X) (hP : va_P D vwCl ([] ++ (TR cA ad hr1 h1 t1 r1 ++ Z)) H) (hD : va_D A ([] ++ (TR cA ad hr1 h1 t1 r1 ++ Z))) (hS : va_S A s.heap H locs) (hl : lv_has ls 7 [(6, .ref a6), (5, .int v5), (4, .int (stV S)), (3, .int (iI (aN (gA S) : Int))), (2, .ref a2), (1, .ref (h1 0)), (0, .ref b)]) (kk : ∀ (H : Heap) (locs : List Loc), va_S A s.heap H locs → ∀ ls : Array Slot, W p l e rm s m ([.ref b] : List Value).toArray below meth c H locs 621907 7228180 Q (F0 m 1519 ls [.int 1])) : W p l e rm s m ([.ref b] : List Value).toArray below meth c H locs 360000 3600000 Q (F0 m 1497 ls []) := by
  have hx := B.1.1
  have hb := B.1.2.1
  refine lv_aload_n hx hb dL_law_1497 rfl (lv_at hl 5 rfl) ?_
  obtain ⟨t3, q, hV1⟩ := V_restore hV1 hX1.2.2
  refine ocT (t9 := t3) (mc := 1) (ms := 6) B (P := ([] : va_W)) (a := 0) rfl hP hD hS (kX12_restore l hl9 D cA ad hr1 h1 _ 2000  t1 (0, iI (aN (gA S) : Int), t3) q) qco_X12_restore qml_L_328 qin_X12_restore qse_X12_restore qini_X12 (show xCd yX12_restore 0 = true by decide +kernel) (by rw [← erm]; rfl) hl.1 rfl (lv_room (Nat.le_of_ble_eq_true rfl)) dL_law_1498 ⟨by rw [← erm]; exact Nat.le_of_ble_eq_true rfl, by rw [← erm]; exact Nat.le_of_ble_eq_true rfl⟩ (fun H locs hP hD hS => ?_)
  refine lv_iload_n hx hb dL_law_1501 rfl (lv_at hl 3 rfl) ?_
  refine lv_icmp_ne (tgt := 1518) hx hb dL_law_1502 (by decide) (fun cc => absurd rfl cc) (fun _ => ?_)
  refine lv_aload_n hx hb dL_law_1505 rfl (lv_at hl 5 rfl) ?_
  refine ocL (F := fun u => u) (mc := 250) (ms := 1500) B (P := ([] : va_W)) (a := 0) rfl hP hD hS (l_state l hl9 D cA ad an tt hr1 h1 _ _ t3 r1 (S, [], X.2.2) hV1) qco_L_state qml_L_185 qst_L_state qini_L (show xCd yL_state 1 = true by decide +kernel) (by rw [← erm]; rfl) hl.1 rfl (lv_room (Nat.le_of_ble_eq_true rfl)) dL_law_1506 ⟨by rw [← erm]; exact Nat.le_of_ble_eq_true rfl, by rw [← erm]; exact Nat.le_of_ble_eq_true rfl⟩ (fun u1 hV9 H locs hP hD hS => ?_)
  have hV1 := hV9
  refine lv_iload hx hb dL_law_1509 (lv_at hl 2 rfl) ?_
  refine lv_icmp_ne (tgt := 1518) hx hb dL_law_1511 (by decide) (fun cc => absurd rfl cc) (fun _ => ?_)
  refine lv_iconst (v := 1) hx hb dL_law_1514 (by decide) ?_
  refine lv_goto (tgt := 1519) hx hb dL_law_1515 (by decide) ?_
  refine W.widen (k := 621907) (n := 7228180) (Nat.le_of_ble_eq_true rfl) (Nat.le_of_ble_eq_true rfl) ?_
  exact kk H locs hS ls
end LX
