/-! build, by the script -/
section BLD
variable {p : Program} {l : Launch} {e : Env} {rm : Room} {s : State} {m : MethodId} {below : List Frame} {meth : Method} {c : Code} {H : Heap} {locs : List Loc} {cz sl : Nat} {Q : State → Prop} {ls : Array Slot} {D : va_G} {cA : Nat → ClassId} {ad an tt : Nat → Nat} {hr : Nat → Nat → Nat} {h0 : Nat → Nat} {A : Nat → Prop} {b n : Nat} {t : ThlS} {r : Nat → BooS} {Wo : SO}
set_option maxRecDepth 100000 in
set_option maxHeartbeats 4000000 in
theorem b_mid10 {nn ac cv kv zz : Int32} (hl9 : l.stackTraces = false) (B : lB p l s m [.ref b] c meth cL_build 8 (some (.object "TheatreLedger")) D cA ad an tt A) (erm : RBd = rm) (hV : V n t r Wo) (hn : n + 4 ≤ 512) (hcz : cz + 5 ≤ 1000) (hsl : sl + 30 ≤ 9000) (hP : va_P D vwCl ([] ++ (TR cA ad hr h0 t r ++ [])) H) (hD : va_D A ([] ++ (TR cA ad hr h0 t r ++ []))) (hS : va_S A s.heap H locs) (hnn : ∃ q : Nat, q < 64 ∧ nn = iI (q : Int)) (hl : lv_has ls 8 [(7, .int nn), (6, .int (iI ((10 : Nat) : Int))), (5, .int ac), (4, .int cv), (3, .int kv), (2, .int zz), (1, .ref (h0 0)), (0, .ref b)]) (kk : ∀ (t : ThlS) (r : Nat → BooS), V (n + 1) t r (bM10 cv ac nn Wo) → ∀ (H : Heap) (locs : List Loc), va_P D vwCl ([] ++ (TR cA ad hr h0 t r ++ [])) H → va_D A ([] ++ (TR cA ad hr h0 t r ++ [])) → va_S A s.heap H locs → ∀ ls : Array Slot, lv_has ls 8 [(7, .int nn), (6, .int (iI ((10 : Nat) : Int))), (5, .int ac), (4, .int cv), (3, .int kv), (2, .int zz), (1, .ref (h0 0)), (0, .ref b)] → W p l e rm s m ([.ref b] : List Value).toArray below meth c H locs (cz + 3) (sl + 18) Q (F0 m 428 ls [])) : W p l e rm s m ([.ref b] : List Value).toArray below meth c H locs cz sl Q (F0 m 153 ls []) := by
  have hx := B.1.1
  have hb := B.1.2.1
  unfold bM10 at kk
  have w := hV.w
  have nJ := w.2.1.1
  have nK := jK_le (gJ (oS Wo))
  have nK2 : jK (gJ (oS Wo)) ≤ jN (gJ (oS Wo)) := by unfold jK; omega
  have e0 := r_entryCount (N := 2000) hV.R w
  refine lv_iload hx hb dL_build_153 (lv_at hl 1 rfl) ?_
  refine lv_iconst (v := 3) hx hb dL_build_155 (by decide) ?_
  refine lv_icmp_ge (tgt := 183) hx hb dL_build_156 (by decide) (fun _ => ?_) (fun cc => absurd (by decide +kernel) cc)
  refine lv_iload hx hb dL_build_183 (lv_at hl 1 rfl) ?_
  refine lv_iconst (v := 3) hx hb dL_build_185 (by decide) ?_
  refine lv_icmp_eq (tgt := 195) hx hb dL_build_186 (by decide) (fun cc => absurd cc (by decide +kernel)) (fun _ => ?_)
  refine lv_iload hx hb dL_build_189 (lv_at hl 1 rfl) ?_
  refine lv_iconst (v := 4) hx hb dL_build_191 (by decide) ?_
  refine lv_icmp_ne (tgt := 219) hx hb dL_build_192 (by decide) (fun _ => ?_) (fun cc => absurd cc (by decide +kernel))
  refine lv_iload hx hb dL_build_219 (lv_at hl 1 rfl) ?_
  refine lv_iconst (v := 5) hx hb dL_build_221 (by decide) ?_
  refine lv_icmp_eq (tgt := 239) hx hb dL_build_222 (by decide) (fun cc => absurd cc (by decide +kernel)) (fun _ => ?_)
  refine lv_iload hx hb dL_build_225 (lv_at hl 1 rfl) ?_
  refine lv_bipush (v := 6) hx hb dL_build_227 (by decide) ?_
  refine lv_icmp_eq (tgt := 239) hx hb dL_build_229 (by decide) (fun cc => absurd cc (by decide +kernel)) (fun _ => ?_)
  refine lv_iload hx hb dL_build_232 (lv_at hl 1 rfl) ?_
  refine lv_bipush (v := 7) hx hb dL_build_234 (by decide) ?_
  refine lv_icmp_ne (tgt := 257) hx hb dL_build_236 (by decide) (fun _ => ?_) (fun cc => absurd cc (by decide +kernel))
  refine lv_iload hx hb dL_build_257 (lv_at hl 1 rfl) ?_
  refine lv_bipush (v := 8) hx hb dL_build_259 (by decide) ?_
  refine lv_icmp_ne (tgt := 282) hx hb dL_build_261 (by decide) (fun _ => ?_) (fun cc => absurd cc (by decide +kernel))
  refine lv_iload hx hb dL_build_282 (lv_at hl 1 rfl) ?_
  refine lv_bipush (v := 9) hx hb dL_build_284 (by decide) ?_
  refine lv_icmp_ne (tgt := 301) hx hb dL_build_286 (by decide) (fun _ => ?_) (fun cc => absurd cc (by decide +kernel))
  refine lv_iload hx hb dL_build_301 (lv_at hl 1 rfl) ?_
  refine lv_bipush (v := 10) hx hb dL_build_303 (by decide) ?_
  refine lv_icmp_ne (tgt := 333) hx hb dL_build_305 (by decide) (fun cc => absurd (by decide +kernel) cc) (fun _ => ?_)
  refine lv_aload_n hx hb dL_build_308 rfl (lv_at hl 6 rfl) ?_
  refine ocTz (t9 := t) B rfl hP hD hS (kX12_entryCount l D cA ad hr h0 _ 2000  t (iI (jK (gJ (oS Wo)) : Int)) e0) qco_X12_entryCount qml_L_42 qin_X12_entryCount qse_X12_entryCount qini_X12 (show xCd yX12_entryCount 0 = true by decide +kernel) (by rw [← erm]; rfl) hl.1 rfl (lv_room (Nat.le_of_ble_eq_true rfl)) dL_build_309 ⟨by rw [← erm]; show cz ≤ 1000; omega, by rw [← erm]; show sl ≤ 9000; omega⟩ (fun H locs hP hD hS => ?_)
  by_cases hj0 : jK (gJ (oS Wo)) = 0
  · refine lv_if_le (tgt := 333) hx hb dL_build_312 (by decide) (fun _ => ?_) (fun cc => absurd (by rw [i_lit, i_le (by omega) (by omega) (by omega) (by omega)]; omega) cc)
    refine lv_iload hx hb dL_build_333 (lv_at hl 1 rfl) ?_
    refine lv_bipush (v := 11) hx hb dL_build_335 (by decide) ?_
    refine lv_icmp_ne (tgt := 349) hx hb dL_build_337 (by decide) (fun _ => ?_) (fun cc => absurd cc (by decide +kernel))
    refine lv_iload hx hb dL_build_349 (lv_at hl 1 rfl) ?_
    refine lv_bipush (v := 12) hx hb dL_build_351 (by decide) ?_
    refine lv_icmp_eq (tgt := 363) hx hb dL_build_353 (by decide) (fun cc => absurd cc (by decide +kernel)) (fun _ => ?_)
    refine lv_iload hx hb dL_build_356 (lv_at hl 1 rfl) ?_
    refine lv_bipush (v := 13) hx hb dL_build_358 (by decide) ?_
    refine lv_icmp_ne (tgt := 410) hx hb dL_build_360 (by decide) (fun _ => ?_) (fun cc => absurd cc (by decide +kernel))
    refine lv_iload hx hb dL_build_410 (lv_at hl 1 rfl) ?_
    refine lv_bipush (v := 14) hx hb dL_build_412 (by decide) ?_
    refine lv_icmp_ne (tgt := 428) hx hb dL_build_414 (by decide) (fun _ => ?_) (fun cc => absurd cc (by decide +kernel))
    rw [if_pos hj0] at kk
    refine W.widen (k := cz + 3) (n := sl + 18) (by omega) (by omega) ?_
    exact kk t r (hV.more (Nat.le_succ n)) H locs hP hD hS ls hl
  refine lv_if_le (tgt := 333) hx hb dL_build_312 (by decide) (fun cc => absurd cc (by rw [i_lit, i_le (by omega) (by omega) (by omega) (by omega)]; omega)) (fun _ => ?_)
  rw [if_neg hj0] at kk
  have nz1 : ¬ iI (jK (gJ (oS Wo)) : Int) = 0 := by rw [i_lit, i_eq (by omega) (by omega) (by omega) (by omega)]; omega
  refine lv_aload_n hx hb dL_build_315 rfl (lv_at hl 6 rfl) ?_
  refine lv_iconst (v := 3) hx hb dL_build_316 (by decide) ?_
  refine lv_aload_n hx hb dL_build_317 rfl (lv_at hl 6 rfl) ?_
  refine lv_iload hx hb dL_build_318 (lv_at hl 0 rfl) ?_
  refine lv_aload_n hx hb dL_build_320 rfl (lv_at hl 6 rfl) ?_
  refine ocTz (t9 := t) B rfl hP hD hS (kX12_entryCount l D cA ad hr h0 _ 2000  t (iI (jK (gJ (oS Wo)) : Int)) e0) qco_X12_entryCount qml_L_42 qin_X12_entryCount qse_X12_entryCount qini_X12 (show xCd yX12_entryCount 0 = true by decide +kernel) (by rw [← erm]; rfl) hl.1 rfl (lv_room (Nat.le_of_ble_eq_true rfl)) dL_build_321 ⟨by rw [← erm]; show cz ≤ 1000; omega, by rw [← erm]; show sl ≤ 9000; omega⟩ (fun H locs hP hD hS => ?_)
  refine lv_irem hx hb dL_build_324 nz1 ?_
  have hz := rem_in hnn (by omega) (by omega : 0 < jK (gJ (oS Wo)))
  have e1 := r_entryAt (N := 2000) hV.R hV.w (i_rng (nn - nn / (iI (jK (gJ (oS Wo)) : Int)) * (iI (jK (gJ (oS Wo)) : Int))))
  rw [i_self, if_pos (by omega)] at e1
  refine ocT (t9 := t) (mc := 1) (ms := 6) B rfl hP hD hS (kX12_entryAt l hl9 D cA ad hr h0 _ 2000 (nn - nn / (iI (jK (gJ (oS Wo)) : Int)) * (iI (jK (gJ (oS Wo)) : Int))) t (0, iI ((jN (gJ (oS Wo)) : Int) - (jK (gJ (oS Wo)) : Int) + ((nn - nn / (iI (jK (gJ (oS Wo)) : Int)) * (iI (jK (gJ (oS Wo)) : Int))) : Int32).toInt)) e1) qco_X12_entryAt qml_L_45 qin_X12_entryAt qse_X12_entryAt qini_X12 (show xCd yX12_entryAt 1 = true by decide +kernel) (by rw [← erm]; rfl) hl.1 rfl (lv_room (Nat.le_of_ble_eq_true rfl)) dL_build_325 ⟨by rw [← erm]; show cz + 1 ≤ 1000; omega, by rw [← erm]; show sl + 6 ≤ 9000; omega⟩ (fun H locs hP hD hS => ?_)
  refine lv_iconst (v := 0) hx hb dL_build_328 (by decide) ?_
  refine ocLW (F := fun u => u) (mc := 1) (ms := 6) B rfl hP hD hS (l_act3 l hl9 D cA ad an tt hr h0 _ n (iI ((jN (gJ (oS Wo)) : Int) - (jK (gJ (oS Wo)) : Int) + ((nn - nn / (iI (jK (gJ (oS Wo)) : Int)) * (iI (jK (gJ (oS Wo)) : Int))) : Int32).toInt)) 0 t r Wo hV (by omega)) qcw_L_act qml_L_33 qst_L_act qini_L (show xCd yL_act 4 = true by decide +kernel) (by rw [← erm]; rfl) hl.1 rfl (lv_room (Nat.le_of_ble_eq_true rfl)) dL_build_329 ⟨by rw [← erm]; show cz + 1 + 1 ≤ 1000; omega, by rw [← erm]; show sl + 6 + 6 ≤ 9000; omega⟩ (fun u hV9 H locs hP hD hS => ?_)
  refine lv_pop hx hb dL_build_332 rfl ?_
  refine lv_iload hx hb dL_build_333 (lv_at hl 1 rfl) ?_
  refine lv_bipush (v := 11) hx hb dL_build_335 (by decide) ?_
  refine lv_icmp_ne (tgt := 349) hx hb dL_build_337 (by decide) (fun _ => ?_) (fun cc => absurd cc (by decide +kernel))
  refine lv_iload hx hb dL_build_349 (lv_at hl 1 rfl) ?_
  refine lv_bipush (v := 12) hx hb dL_build_351 (by decide) ?_
  refine lv_icmp_eq (tgt := 363) hx hb dL_build_353 (by decide) (fun cc => absurd cc (by decide +kernel)) (fun _ => ?_)
  refine lv_iload hx hb dL_build_356 (lv_at hl 1 rfl) ?_
  refine lv_bipush (v := 13) hx hb dL_build_358 (by decide) ?_
  refine lv_icmp_ne (tgt := 410) hx hb dL_build_360 (by decide) (fun _ => ?_) (fun cc => absurd cc (by decide +kernel))
  refine lv_iload hx hb dL_build_410 (lv_at hl 1 rfl) ?_
  refine lv_bipush (v := 14) hx hb dL_build_412 (by decide) ?_
  refine lv_icmp_ne (tgt := 428) hx hb dL_build_414 (by decide) (fun _ => ?_) (fun cc => absurd cc (by decide +kernel))
  refine W.widen (k := cz + 3) (n := sl + 18) (by omega) (by omega) ?_
  exact kk u.1 u.2 (hV9) H locs hP hD hS ls hl
set_option maxRecDepth 100000 in
set_option maxHeartbeats 4000000 in
theorem b_mid11 {nn ac cv kv zz : Int32} (hl9 : l.stackTraces = false) (B : lB p l s m [.ref b] c meth cL_build 8 (some (.object "TheatreLedger")) D cA ad an tt A) (erm : RBd = rm) (hV : V n t r Wo) (hn : n + 4 ≤ 512) (hcz : cz + 5 ≤ 1000) (hsl : sl + 30 ≤ 9000) (hP : va_P D vwCl ([] ++ (TR cA ad hr h0 t r ++ [])) H) (hD : va_D A ([] ++ (TR cA ad hr h0 t r ++ []))) (hS : va_S A s.heap H locs) (hl : lv_has ls 8 [(7, .int nn), (6, .int (iI ((11 : Nat) : Int))), (5, .int ac), (4, .int cv), (3, .int kv), (2, .int zz), (1, .ref (h0 0)), (0, .ref b)]) (kk : ∀ (t : ThlS) (r : Nat → BooS), V (n + 1) t r (bM11 cv ac nn Wo) → ∀ (H : Heap) (locs : List Loc), va_P D vwCl ([] ++ (TR cA ad hr h0 t r ++ [])) H → va_D A ([] ++ (TR cA ad hr h0 t r ++ [])) → va_S A s.heap H locs → ∀ ls : Array Slot, lv_has ls 8 [(7, .int nn), (6, .int (iI ((11 : Nat) : Int))), (5, .int ac), (4, .int cv), (3, .int kv), (2, .int zz), (1, .ref (h0 0)), (0, .ref b)] → W p l e rm s m ([.ref b] : List Value).toArray below meth c H locs (cz + 3) (sl + 18) Q (F0 m 428 ls [])) : W p l e rm s m ([.ref b] : List Value).toArray below meth c H locs cz sl Q (F0 m 153 ls []) := by
  have hx := B.1.1
  have hb := B.1.2.1
  unfold bM11 at kk
  refine lv_iload hx hb dL_build_153 (lv_at hl 1 rfl) ?_
  refine lv_iconst (v := 3) hx hb dL_build_155 (by decide) ?_
  refine lv_icmp_ge (tgt := 183) hx hb dL_build_156 (by decide) (fun _ => ?_) (fun cc => absurd (by decide +kernel) cc)
  refine lv_iload hx hb dL_build_183 (lv_at hl 1 rfl) ?_
  refine lv_iconst (v := 3) hx hb dL_build_185 (by decide) ?_
  refine lv_icmp_eq (tgt := 195) hx hb dL_build_186 (by decide) (fun cc => absurd cc (by decide +kernel)) (fun _ => ?_)
  refine lv_iload hx hb dL_build_189 (lv_at hl 1 rfl) ?_
  refine lv_iconst (v := 4) hx hb dL_build_191 (by decide) ?_
  refine lv_icmp_ne (tgt := 219) hx hb dL_build_192 (by decide) (fun _ => ?_) (fun cc => absurd cc (by decide +kernel))
  refine lv_iload hx hb dL_build_219 (lv_at hl 1 rfl) ?_
  refine lv_iconst (v := 5) hx hb dL_build_221 (by decide) ?_
  refine lv_icmp_eq (tgt := 239) hx hb dL_build_222 (by decide) (fun cc => absurd cc (by decide +kernel)) (fun _ => ?_)
  refine lv_iload hx hb dL_build_225 (lv_at hl 1 rfl) ?_
  refine lv_bipush (v := 6) hx hb dL_build_227 (by decide) ?_
  refine lv_icmp_eq (tgt := 239) hx hb dL_build_229 (by decide) (fun cc => absurd cc (by decide +kernel)) (fun _ => ?_)
  refine lv_iload hx hb dL_build_232 (lv_at hl 1 rfl) ?_
  refine lv_bipush (v := 7) hx hb dL_build_234 (by decide) ?_
  refine lv_icmp_ne (tgt := 257) hx hb dL_build_236 (by decide) (fun _ => ?_) (fun cc => absurd cc (by decide +kernel))
  refine lv_iload hx hb dL_build_257 (lv_at hl 1 rfl) ?_
  refine lv_bipush (v := 8) hx hb dL_build_259 (by decide) ?_
  refine lv_icmp_ne (tgt := 282) hx hb dL_build_261 (by decide) (fun _ => ?_) (fun cc => absurd cc (by decide +kernel))
  refine lv_iload hx hb dL_build_282 (lv_at hl 1 rfl) ?_
  refine lv_bipush (v := 9) hx hb dL_build_284 (by decide) ?_
  refine lv_icmp_ne (tgt := 301) hx hb dL_build_286 (by decide) (fun _ => ?_) (fun cc => absurd cc (by decide +kernel))
  refine lv_iload hx hb dL_build_301 (lv_at hl 1 rfl) ?_
  refine lv_bipush (v := 10) hx hb dL_build_303 (by decide) ?_
  refine lv_icmp_ne (tgt := 333) hx hb dL_build_305 (by decide) (fun _ => ?_) (fun cc => absurd cc (by decide +kernel))
  refine lv_iload hx hb dL_build_333 (lv_at hl 1 rfl) ?_
  refine lv_bipush (v := 11) hx hb dL_build_335 (by decide) ?_
  refine lv_icmp_ne (tgt := 349) hx hb dL_build_337 (by decide) (fun cc => absurd (by decide +kernel) cc) (fun _ => ?_)
  refine lv_aload_n hx hb dL_build_340 rfl (lv_at hl 6 rfl) ?_
  refine lv_bipush (v := 11) hx hb dL_build_341 (by decide) ?_
  refine lv_iconst (v := 0) hx hb dL_build_343 (by decide) ?_
  refine lv_iconst (v := 0) hx hb dL_build_344 (by decide) ?_
  refine ocLW (F := fun u => u) (mc := 0) (ms := 0) B rfl hP hD hS (l_act11 l hl9 D cA ad an tt hr h0 _ n 0 0 t r Wo hV (by omega)) qcw_L_act qml_L_33 qst_L_act qini_L (show xCd yL_act 4 = true by decide +kernel) (by rw [← erm]; rfl) hl.1 rfl (lv_room (Nat.le_of_ble_eq_true rfl)) dL_build_345 ⟨by rw [← erm]; show cz + 0 ≤ 1000; omega, by rw [← erm]; show sl + 0 ≤ 9000; omega⟩ (fun u hV9 H locs hP hD hS => ?_)
  refine lv_pop hx hb dL_build_348 rfl ?_
  refine lv_iload hx hb dL_build_349 (lv_at hl 1 rfl) ?_
  refine lv_bipush (v := 12) hx hb dL_build_351 (by decide) ?_
  refine lv_icmp_eq (tgt := 363) hx hb dL_build_353 (by decide) (fun cc => absurd cc (by decide +kernel)) (fun _ => ?_)
  refine lv_iload hx hb dL_build_356 (lv_at hl 1 rfl) ?_
  refine lv_bipush (v := 13) hx hb dL_build_358 (by decide) ?_
  refine lv_icmp_ne (tgt := 410) hx hb dL_build_360 (by decide) (fun _ => ?_) (fun cc => absurd cc (by decide +kernel))
  refine lv_iload hx hb dL_build_410 (lv_at hl 1 rfl) ?_
  refine lv_bipush (v := 14) hx hb dL_build_412 (by decide) ?_
  refine lv_icmp_ne (tgt := 428) hx hb dL_build_414 (by decide) (fun _ => ?_) (fun cc => absurd cc (by decide +kernel))
  refine W.widen (k := cz + 3) (n := sl + 18) (by omega) (by omega) ?_
  exact kk u.1 u.2 (hV9) H locs hP hD hS ls hl
end BLD
